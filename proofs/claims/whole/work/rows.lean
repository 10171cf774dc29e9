section
-- ===== PART A: goes FIRST, ahead of the names: the tables' words, and 'selects' of the private methods out of them =====
/-- a private method of a class that the tables say can be made, by its rows of tables_1 -/
def lw_okq (q : MethodName × Nat) : Prop := (q.1.cls ≠ "java/lang/invoke/MethodHandle" ∧ q.1.cls ≠ "java/lang/invoke/VarHandle") ∧ Cond.instantiable q.1.cls q.2 ∈ tables_1 ∧ Cond.privateMethod q.1 ∈ tables_1 ∧ Cond.instanceMethod q.1 ∈ tables_1
theorem lw_p0 : lw_okq (⟨"OrderedTable", "isReplica", "(I)Z"⟩, 10) := ⟨⟨by decide +kernel, by decide +kernel⟩, List.mem_of_getElem? (i := 25) (by decide +kernel), List.mem_of_getElem? (i := 473) (by decide +kernel), List.mem_of_getElem? (i := 474) (by decide +kernel)⟩
theorem lw_p1 : lw_okq (⟨"OrderedTable", "isKey", "(I)Z"⟩, 10) := ⟨⟨by decide +kernel, by decide +kernel⟩, List.mem_of_getElem? (i := 25) (by decide +kernel), List.mem_of_getElem? (i := 493) (by decide +kernel), List.mem_of_getElem? (i := 494) (by decide +kernel)⟩
theorem lw_p2 : lw_okq (⟨"OrderedTable$Words", "isNew", "(I)Z"⟩, 5) := ⟨⟨by decide +kernel, by decide +kernel⟩, List.mem_of_getElem? (i := 73) (by decide +kernel), List.mem_of_getElem? (i := 517) (by decide +kernel), List.mem_of_getElem? (i := 518) (by decide +kernel)⟩
theorem lw_p3 : lw_okq (⟨"OrderedTable$Words", "executeRequest", "(I)V"⟩, 5) := ⟨⟨by decide +kernel, by decide +kernel⟩, List.mem_of_getElem? (i := 73) (by decide +kernel), List.mem_of_getElem? (i := 521) (by decide +kernel), List.mem_of_getElem? (i := 522) (by decide +kernel)⟩
theorem lw_p4 : lw_okq (⟨"OrderedTable", "isClient", "(I)Z"⟩, 10) := ⟨⟨by decide +kernel, by decide +kernel⟩, List.mem_of_getElem? (i := 25) (by decide +kernel), List.mem_of_getElem? (i := 529) (by decide +kernel), List.mem_of_getElem? (i := 530) (by decide +kernel)⟩
theorem lw_p5 : lw_okq (⟨"java/lang/Throwable", "fillInStackTrace", "(I)Ljava/lang/Throwable;"⟩, 6) := ⟨⟨by decide +kernel, by decide +kernel⟩, List.mem_of_getElem? (i := 632) (by decide +kernel), List.mem_of_getElem? (i := 630) (by decide +kernel), List.mem_of_getElem? (i := 631) (by decide +kernel)⟩
theorem lw_p6 : lw_okq (⟨"OrderedTable", "stamp", "(I)V"⟩, 10) := ⟨⟨by decide +kernel, by decide +kernel⟩, List.mem_of_getElem? (i := 25) (by decide +kernel), List.mem_of_getElem? (i := 702) (by decide +kernel), List.mem_of_getElem? (i := 703) (by decide +kernel)⟩
theorem lw_p7 : lw_okq (⟨"OrderedTable", "handOver", "(LOrderedTable$Message;)V"⟩, 10) := ⟨⟨by decide +kernel, by decide +kernel⟩, List.mem_of_getElem? (i := 25) (by decide +kernel), List.mem_of_getElem? (i := 735) (by decide +kernel), List.mem_of_getElem? (i := 736) (by decide +kernel)⟩
theorem lw_p8 : lw_okq (⟨"OrderedTable$Client", "placeOf", "(LOrderedTable$View;I)I"⟩, 13) := ⟨⟨by decide +kernel, by decide +kernel⟩, List.mem_of_getElem? (i := 377) (by decide +kernel), List.mem_of_getElem? (i := 743) (by decide +kernel), List.mem_of_getElem? (i := 744) (by decide +kernel)⟩
theorem lw_p9 : lw_okq (⟨"OrderedTable$Replica", "sendTurns", "()V"⟩, 15) := ⟨⟨by decide +kernel, by decide +kernel⟩, List.mem_of_getElem? (i := 239) (by decide +kernel), List.mem_of_getElem? (i := 781) (by decide +kernel), List.mem_of_getElem? (i := 782) (by decide +kernel)⟩
theorem lw_p10 : lw_okq (⟨"OrderedTable$Replica", "sendToOthers", "(II)V"⟩, 15) := ⟨⟨by decide +kernel, by decide +kernel⟩, List.mem_of_getElem? (i := 239) (by decide +kernel), List.mem_of_getElem? (i := 785) (by decide +kernel), List.mem_of_getElem? (i := 786) (by decide +kernel)⟩
theorem lw_p11 : lw_okq (⟨"OrderedTable$Replica", "send", "(III)LOrderedTable$Message;"⟩, 15) := ⟨⟨by decide +kernel, by decide +kernel⟩, List.mem_of_getElem? (i := 239) (by decide +kernel), List.mem_of_getElem? (i := 789) (by decide +kernel), List.mem_of_getElem? (i := 790) (by decide +kernel)⟩
theorem lw_p12 : lw_okq (⟨"OrderedTable$Replica", "sendLog", "(II)V"⟩, 15) := ⟨⟨by decide +kernel, by decide +kernel⟩, List.mem_of_getElem? (i := 239) (by decide +kernel), List.mem_of_getElem? (i := 795) (by decide +kernel), List.mem_of_getElem? (i := 796) (by decide +kernel)⟩
theorem lw_p13 : lw_okq (⟨"OrderedTable$Held", "indexOf", "(I)I"⟩, 3) := ⟨⟨by decide +kernel, by decide +kernel⟩, List.mem_of_getElem? (i := 247) (by decide +kernel), List.mem_of_getElem? (i := 810) (by decide +kernel), List.mem_of_getElem? (i := 811) (by decide +kernel)⟩
theorem lw_p14 : lw_okq (⟨"OrderedTable$Replica", "takeHeld", "()V"⟩, 15) := ⟨⟨by decide +kernel, by decide +kernel⟩, List.mem_of_getElem? (i := 239) (by decide +kernel), List.mem_of_getElem? (i := 822) (by decide +kernel), List.mem_of_getElem? (i := 823) (by decide +kernel)⟩
theorem lw_p15 : lw_okq (⟨"OrderedTable$Replica", "reply", "(II)V"⟩, 15) := ⟨⟨by decide +kernel, by decide +kernel⟩, List.mem_of_getElem? (i := 239) (by decide +kernel), List.mem_of_getElem? (i := 834) (by decide +kernel), List.mem_of_getElem? (i := 835) (by decide +kernel)⟩
def lw_privs_1 : List (MethodName × Nat) := [(⟨"OrderedTable", "isReplica", "(I)Z"⟩, 10), (⟨"OrderedTable", "isKey", "(I)Z"⟩, 10), (⟨"OrderedTable$Words", "isNew", "(I)Z"⟩, 5), (⟨"OrderedTable$Words", "executeRequest", "(I)V"⟩, 5), (⟨"OrderedTable", "isClient", "(I)Z"⟩, 10), (⟨"java/lang/Throwable", "fillInStackTrace", "(I)Ljava/lang/Throwable;"⟩, 6), (⟨"OrderedTable", "stamp", "(I)V"⟩, 10), (⟨"OrderedTable", "handOver", "(LOrderedTable$Message;)V"⟩, 10), (⟨"OrderedTable$Client", "placeOf", "(LOrderedTable$View;I)I"⟩, 13), (⟨"OrderedTable$Replica", "sendTurns", "()V"⟩, 15), (⟨"OrderedTable$Replica", "sendToOthers", "(II)V"⟩, 15), (⟨"OrderedTable$Replica", "send", "(III)LOrderedTable$Message;"⟩, 15), (⟨"OrderedTable$Replica", "sendLog", "(II)V"⟩, 15), (⟨"OrderedTable$Held", "indexOf", "(I)I"⟩, 3), (⟨"OrderedTable$Replica", "takeHeld", "()V"⟩, 15), (⟨"OrderedTable$Replica", "reply", "(II)V"⟩, 15)]
theorem lw_r1 : ∀ q ∈ lw_privs_1, lw_okq q := List.forall_mem_cons.mpr ⟨lw_p0, List.forall_mem_cons.mpr ⟨lw_p1, List.forall_mem_cons.mpr ⟨lw_p2, List.forall_mem_cons.mpr ⟨lw_p3, List.forall_mem_cons.mpr ⟨lw_p4, List.forall_mem_cons.mpr ⟨lw_p5, List.forall_mem_cons.mpr ⟨lw_p6, List.forall_mem_cons.mpr ⟨lw_p7, List.forall_mem_cons.mpr ⟨lw_p8, List.forall_mem_cons.mpr ⟨lw_p9, List.forall_mem_cons.mpr ⟨lw_p10, List.forall_mem_cons.mpr ⟨lw_p11, List.forall_mem_cons.mpr ⟨lw_p12, List.forall_mem_cons.mpr ⟨lw_p13, List.forall_mem_cons.mpr ⟨lw_p14, List.forall_mem_cons.mpr ⟨lw_p15, fun _ h => absurd h List.not_mem_nil⟩⟩⟩⟩⟩⟩⟩⟩⟩⟩⟩⟩⟩⟩⟩⟩
theorem lw_p16 : lw_okq (⟨"OrderedTable$Replica", "receiveStart", "(LOrderedTable$Message;)V"⟩, 15) := ⟨⟨by decide +kernel, by decide +kernel⟩, List.mem_of_getElem? (i := 239) (by decide +kernel), List.mem_of_getElem? (i := 852) (by decide +kernel), List.mem_of_getElem? (i := 853) (by decide +kernel)⟩
theorem lw_p17 : lw_okq (⟨"OrderedTable$Replica", "becomeNormal", "()V"⟩, 15) := ⟨⟨by decide +kernel, by decide +kernel⟩, List.mem_of_getElem? (i := 239) (by decide +kernel), List.mem_of_getElem? (i := 858) (by decide +kernel), List.mem_of_getElem? (i := 859) (by decide +kernel)⟩
theorem lw_p18 : lw_okq (⟨"OrderedTable$Replica", "receiveTurned", "(LOrderedTable$Message;)V"⟩, 15) := ⟨⟨by decide +kernel, by decide +kernel⟩, List.mem_of_getElem? (i := 239) (by decide +kernel), List.mem_of_getElem? (i := 869) (by decide +kernel), List.mem_of_getElem? (i := 870) (by decide +kernel)⟩
theorem lw_p19 : lw_okq (⟨"OrderedTable$Replica", "isEnough", "(I)Z"⟩, 15) := ⟨⟨by decide +kernel, by decide +kernel⟩, List.mem_of_getElem? (i := 239) (by decide +kernel), List.mem_of_getElem? (i := 878) (by decide +kernel), List.mem_of_getElem? (i := 879) (by decide +kernel)⟩
theorem lw_p20 : lw_okq (⟨"OrderedTable$Replica", "mergeLogs", "()V"⟩, 15) := ⟨⟨by decide +kernel, by decide +kernel⟩, List.mem_of_getElem? (i := 239) (by decide +kernel), List.mem_of_getElem? (i := 883) (by decide +kernel), List.mem_of_getElem? (i := 884) (by decide +kernel)⟩
theorem lw_p21 : lw_okq (⟨"OrderedTable$Replica", "isMerged", "(ILOrderedTable$View;)Z"⟩, 15) := ⟨⟨by decide +kernel, by decide +kernel⟩, List.mem_of_getElem? (i := 239) (by decide +kernel), List.mem_of_getElem? (i := 895) (by decide +kernel), List.mem_of_getElem? (i := 896) (by decide +kernel)⟩
theorem lw_p22 : lw_okq (⟨"OrderedTable$Replica", "mergedEntry", "(ILOrderedTable$View;)I"⟩, 15) := ⟨⟨by decide +kernel, by decide +kernel⟩, List.mem_of_getElem? (i := 239) (by decide +kernel), List.mem_of_getElem? (i := 900) (by decide +kernel), List.mem_of_getElem? (i := 901) (by decide +kernel)⟩
theorem lw_p23 : lw_okq (⟨"OrderedTable$Replica", "receiveLookup", "(II)V"⟩, 15) := ⟨⟨by decide +kernel, by decide +kernel⟩, List.mem_of_getElem? (i := 239) (by decide +kernel), List.mem_of_getElem? (i := 915) (by decide +kernel), List.mem_of_getElem? (i := 916) (by decide +kernel)⟩
theorem lw_p24 : lw_okq (⟨"OrderedTable$Replica", "receiveFound", "(II)V"⟩, 15) := ⟨⟨by decide +kernel, by decide +kernel⟩, List.mem_of_getElem? (i := 239) (by decide +kernel), List.mem_of_getElem? (i := 919) (by decide +kernel), List.mem_of_getElem? (i := 920) (by decide +kernel)⟩
theorem lw_p25 : lw_okq (⟨"OrderedTable$Replica", "receiveGapCommit", "(I)V"⟩, 15) := ⟨⟨by decide +kernel, by decide +kernel⟩, List.mem_of_getElem? (i := 239) (by decide +kernel), List.mem_of_getElem? (i := 923) (by decide +kernel), List.mem_of_getElem? (i := 924) (by decide +kernel)⟩
theorem lw_p26 : lw_okq (⟨"OrderedTable$Replica", "receiveGapReply", "(II)V"⟩, 15) := ⟨⟨by decide +kernel, by decide +kernel⟩, List.mem_of_getElem? (i := 239) (by decide +kernel), List.mem_of_getElem? (i := 927) (by decide +kernel), List.mem_of_getElem? (i := 928) (by decide +kernel)⟩
theorem lw_p27 : lw_okq (⟨"OrderedTable$Replica", "receiveSync", "(LOrderedTable$Message;)V"⟩, 15) := ⟨⟨by decide +kernel, by decide +kernel⟩, List.mem_of_getElem? (i := 239) (by decide +kernel), List.mem_of_getElem? (i := 931) (by decide +kernel), List.mem_of_getElem? (i := 932) (by decide +kernel)⟩
theorem lw_p28 : lw_okq (⟨"OrderedTable$Replica", "receiveSyncReply", "(II)V"⟩, 15) := ⟨⟨by decide +kernel, by decide +kernel⟩, List.mem_of_getElem? (i := 239) (by decide +kernel), List.mem_of_getElem? (i := 940) (by decide +kernel), List.mem_of_getElem? (i := 941) (by decide +kernel)⟩
theorem lw_p29 : lw_okq (⟨"OrderedTable$Replica", "receivePoint", "(I)V"⟩, 15) := ⟨⟨by decide +kernel, by decide +kernel⟩, List.mem_of_getElem? (i := 239) (by decide +kernel), List.mem_of_getElem? (i := 948) (by decide +kernel), List.mem_of_getElem? (i := 949) (by decide +kernel)⟩
theorem lw_p30 : lw_okq (⟨"OrderedTable", "downNow", "()I"⟩, 10) := ⟨⟨by decide +kernel, by decide +kernel⟩, List.mem_of_getElem? (i := 25) (by decide +kernel), List.mem_of_getElem? (i := 975) (by decide +kernel), List.mem_of_getElem? (i := 976) (by decide +kernel)⟩
theorem lw_p31 : lw_okq (⟨"OrderedTableModel", "stamp", "(I)V"⟩, 79) := ⟨⟨by decide +kernel, by decide +kernel⟩, List.mem_of_getElem? (i := 1020) (by decide +kernel), List.mem_of_getElem? (i := 1276) (by decide +kernel), List.mem_of_getElem? (i := 1277) (by decide +kernel)⟩
def lw_privs_2 : List (MethodName × Nat) := [(⟨"OrderedTable$Replica", "receiveStart", "(LOrderedTable$Message;)V"⟩, 15), (⟨"OrderedTable$Replica", "becomeNormal", "()V"⟩, 15), (⟨"OrderedTable$Replica", "receiveTurned", "(LOrderedTable$Message;)V"⟩, 15), (⟨"OrderedTable$Replica", "isEnough", "(I)Z"⟩, 15), (⟨"OrderedTable$Replica", "mergeLogs", "()V"⟩, 15), (⟨"OrderedTable$Replica", "isMerged", "(ILOrderedTable$View;)Z"⟩, 15), (⟨"OrderedTable$Replica", "mergedEntry", "(ILOrderedTable$View;)I"⟩, 15), (⟨"OrderedTable$Replica", "receiveLookup", "(II)V"⟩, 15), (⟨"OrderedTable$Replica", "receiveFound", "(II)V"⟩, 15), (⟨"OrderedTable$Replica", "receiveGapCommit", "(I)V"⟩, 15), (⟨"OrderedTable$Replica", "receiveGapReply", "(II)V"⟩, 15), (⟨"OrderedTable$Replica", "receiveSync", "(LOrderedTable$Message;)V"⟩, 15), (⟨"OrderedTable$Replica", "receiveSyncReply", "(II)V"⟩, 15), (⟨"OrderedTable$Replica", "receivePoint", "(I)V"⟩, 15), (⟨"OrderedTable", "downNow", "()I"⟩, 10), (⟨"OrderedTableModel", "stamp", "(I)V"⟩, 79)]
theorem lw_r2 : ∀ q ∈ lw_privs_2, lw_okq q := List.forall_mem_cons.mpr ⟨lw_p16, List.forall_mem_cons.mpr ⟨lw_p17, List.forall_mem_cons.mpr ⟨lw_p18, List.forall_mem_cons.mpr ⟨lw_p19, List.forall_mem_cons.mpr ⟨lw_p20, List.forall_mem_cons.mpr ⟨lw_p21, List.forall_mem_cons.mpr ⟨lw_p22, List.forall_mem_cons.mpr ⟨lw_p23, List.forall_mem_cons.mpr ⟨lw_p24, List.forall_mem_cons.mpr ⟨lw_p25, List.forall_mem_cons.mpr ⟨lw_p26, List.forall_mem_cons.mpr ⟨lw_p27, List.forall_mem_cons.mpr ⟨lw_p28, List.forall_mem_cons.mpr ⟨lw_p29, List.forall_mem_cons.mpr ⟨lw_p30, List.forall_mem_cons.mpr ⟨lw_p31, fun _ h => absurd h List.not_mem_nil⟩⟩⟩⟩⟩⟩⟩⟩⟩⟩⟩⟩⟩⟩⟩⟩
theorem lw_p32 : lw_okq (⟨"OrderedTableModel", "send", "(IIIIIII)I"⟩, 79) := ⟨⟨by decide +kernel, by decide +kernel⟩, List.mem_of_getElem? (i := 1020) (by decide +kernel), List.mem_of_getElem? (i := 1280) (by decide +kernel), List.mem_of_getElem? (i := 1281) (by decide +kernel)⟩
theorem lw_p33 : lw_okq (⟨"OrderedTableModel", "find", "(I)I"⟩, 79) := ⟨⟨by decide +kernel, by decide +kernel⟩, List.mem_of_getElem? (i := 1020) (by decide +kernel), List.mem_of_getElem? (i := 1292) (by decide +kernel), List.mem_of_getElem? (i := 1293) (by decide +kernel)⟩
theorem lw_p34 : lw_okq (⟨"OrderedTableModel", "arrive", "(I)V"⟩, 79) := ⟨⟨by decide +kernel, by decide +kernel⟩, List.mem_of_getElem? (i := 1020) (by decide +kernel), List.mem_of_getElem? (i := 1296) (by decide +kernel), List.mem_of_getElem? (i := 1297) (by decide +kernel)⟩
theorem lw_p35 : lw_okq (⟨"OrderedTableModel", "taken", "(I)I"⟩, 79) := ⟨⟨by decide +kernel, by decide +kernel⟩, List.mem_of_getElem? (i := 1020) (by decide +kernel), List.mem_of_getElem? (i := 1300) (by decide +kernel), List.mem_of_getElem? (i := 1301) (by decide +kernel)⟩
theorem lw_p36 : lw_okq (⟨"OrderedTableModel", "replied", "(IIIIIIZI)V"⟩, 79) := ⟨⟨by decide +kernel, by decide +kernel⟩, List.mem_of_getElem? (i := 1020) (by decide +kernel), List.mem_of_getElem? (i := 1304) (by decide +kernel), List.mem_of_getElem? (i := 1305) (by decide +kernel)⟩
theorem lw_p37 : lw_okq (⟨"OrderedTableModel", "forgetFirst", "(I)I"⟩, 79) := ⟨⟨by decide +kernel, by decide +kernel⟩, List.mem_of_getElem? (i := 1020) (by decide +kernel), List.mem_of_getElem? (i := 1308) (by decide +kernel), List.mem_of_getElem? (i := 1309) (by decide +kernel)⟩
theorem lw_p38 : lw_okq (⟨"OrderedTableModel", "stamped", "(IIII)V"⟩, 79) := ⟨⟨by decide +kernel, by decide +kernel⟩, List.mem_of_getElem? (i := 1020) (by decide +kernel), List.mem_of_getElem? (i := 1315) (by decide +kernel), List.mem_of_getElem? (i := 1316) (by decide +kernel)⟩
theorem lw_p39 : lw_okq (⟨"OrderedTableModel", "turn", "(III)V"⟩, 79) := ⟨⟨by decide +kernel, by decide +kernel⟩, List.mem_of_getElem? (i := 1020) (by decide +kernel), List.mem_of_getElem? (i := 1319) (by decide +kernel), List.mem_of_getElem? (i := 1320) (by decide +kernel)⟩
theorem lw_p40 : lw_okq (⟨"OrderedTableModel", "forget", "(I)V"⟩, 79) := ⟨⟨by decide +kernel, by decide +kernel⟩, List.mem_of_getElem? (i := 1020) (by decide +kernel), List.mem_of_getElem? (i := 1323) (by decide +kernel), List.mem_of_getElem? (i := 1324) (by decide +kernel)⟩
theorem lw_p41 : lw_okq (⟨"OrderedTableModel", "all", "(III)V"⟩, 79) := ⟨⟨by decide +kernel, by decide +kernel⟩, List.mem_of_getElem? (i := 1020) (by decide +kernel), List.mem_of_getElem? (i := 1327) (by decide +kernel), List.mem_of_getElem? (i := 1328) (by decide +kernel)⟩
theorem lw_p42 : lw_okq (⟨"OrderedTableModel", "leads", "(I)Z"⟩, 79) := ⟨⟨by decide +kernel, by decide +kernel⟩, List.mem_of_getElem? (i := 1020) (by decide +kernel), List.mem_of_getElem? (i := 1331) (by decide +kernel), List.mem_of_getElem? (i := 1332) (by decide +kernel)⟩
theorem lw_p43 : lw_okq (⟨"OrderedTableModel", "tellTurned", "(I)V"⟩, 79) := ⟨⟨by decide +kernel, by decide +kernel⟩, List.mem_of_getElem? (i := 1020) (by decide +kernel), List.mem_of_getElem? (i := 1335) (by decide +kernel), List.mem_of_getElem? (i := 1336) (by decide +kernel)⟩
theorem lw_p44 : lw_okq (⟨"OrderedTableModel", "leader", "(I)I"⟩, 79) := ⟨⟨by decide +kernel, by decide +kernel⟩, List.mem_of_getElem? (i := 1020) (by decide +kernel), List.mem_of_getElem? (i := 1339) (by decide +kernel), List.mem_of_getElem? (i := 1340) (by decide +kernel)⟩
theorem lw_p45 : lw_okq (⟨"OrderedTableModel", "load", "(III)V"⟩, 79) := ⟨⟨by decide +kernel, by decide +kernel⟩, List.mem_of_getElem? (i := 1020) (by decide +kernel), List.mem_of_getElem? (i := 1343) (by decide +kernel), List.mem_of_getElem? (i := 1344) (by decide +kernel)⟩
theorem lw_p46 : lw_okq (⟨"OrderedTableModel", "held", "(II)I"⟩, 79) := ⟨⟨by decide +kernel, by decide +kernel⟩, List.mem_of_getElem? (i := 1020) (by decide +kernel), List.mem_of_getElem? (i := 1347) (by decide +kernel), List.mem_of_getElem? (i := 1348) (by decide +kernel)⟩
theorem lw_p47 : lw_okq (⟨"OrderedTableModel", "hold", "(III)V"⟩, 79) := ⟨⟨by decide +kernel, by decide +kernel⟩, List.mem_of_getElem? (i := 1020) (by decide +kernel), List.mem_of_getElem? (i := 1351) (by decide +kernel), List.mem_of_getElem? (i := 1352) (by decide +kernel)⟩
def lw_privs_3 : List (MethodName × Nat) := [(⟨"OrderedTableModel", "send", "(IIIIIII)I"⟩, 79), (⟨"OrderedTableModel", "find", "(I)I"⟩, 79), (⟨"OrderedTableModel", "arrive", "(I)V"⟩, 79), (⟨"OrderedTableModel", "taken", "(I)I"⟩, 79), (⟨"OrderedTableModel", "replied", "(IIIIIIZI)V"⟩, 79), (⟨"OrderedTableModel", "forgetFirst", "(I)I"⟩, 79), (⟨"OrderedTableModel", "stamped", "(IIII)V"⟩, 79), (⟨"OrderedTableModel", "turn", "(III)V"⟩, 79), (⟨"OrderedTableModel", "forget", "(I)V"⟩, 79), (⟨"OrderedTableModel", "all", "(III)V"⟩, 79), (⟨"OrderedTableModel", "leads", "(I)Z"⟩, 79), (⟨"OrderedTableModel", "tellTurned", "(I)V"⟩, 79), (⟨"OrderedTableModel", "leader", "(I)I"⟩, 79), (⟨"OrderedTableModel", "load", "(III)V"⟩, 79), (⟨"OrderedTableModel", "held", "(II)I"⟩, 79), (⟨"OrderedTableModel", "hold", "(III)V"⟩, 79)]
theorem lw_r3 : ∀ q ∈ lw_privs_3, lw_okq q := List.forall_mem_cons.mpr ⟨lw_p32, List.forall_mem_cons.mpr ⟨lw_p33, List.forall_mem_cons.mpr ⟨lw_p34, List.forall_mem_cons.mpr ⟨lw_p35, List.forall_mem_cons.mpr ⟨lw_p36, List.forall_mem_cons.mpr ⟨lw_p37, List.forall_mem_cons.mpr ⟨lw_p38, List.forall_mem_cons.mpr ⟨lw_p39, List.forall_mem_cons.mpr ⟨lw_p40, List.forall_mem_cons.mpr ⟨lw_p41, List.forall_mem_cons.mpr ⟨lw_p42, List.forall_mem_cons.mpr ⟨lw_p43, List.forall_mem_cons.mpr ⟨lw_p44, List.forall_mem_cons.mpr ⟨lw_p45, List.forall_mem_cons.mpr ⟨lw_p46, List.forall_mem_cons.mpr ⟨lw_p47, fun _ h => absurd h List.not_mem_nil⟩⟩⟩⟩⟩⟩⟩⟩⟩⟩⟩⟩⟩⟩⟩⟩
theorem lw_p48 : lw_okq (⟨"OrderedTableModel", "take", "(I)V"⟩, 79) := ⟨⟨by decide +kernel, by decide +kernel⟩, List.mem_of_getElem? (i := 1020) (by decide +kernel), List.mem_of_getElem? (i := 1355) (by decide +kernel), List.mem_of_getElem? (i := 1356) (by decide +kernel)⟩
theorem lw_p49 : lw_okq (⟨"OrderedTableModel", "unhold", "(II)V"⟩, 79) := ⟨⟨by decide +kernel, by decide +kernel⟩, List.mem_of_getElem? (i := 1020) (by decide +kernel), List.mem_of_getElem? (i := 1359) (by decide +kernel), List.mem_of_getElem? (i := 1360) (by decide +kernel)⟩
theorem lw_p50 : lw_okq (⟨"OrderedTableModel", "append", "(II)V"⟩, 79) := ⟨⟨by decide +kernel, by decide +kernel⟩, List.mem_of_getElem? (i := 1020) (by decide +kernel), List.mem_of_getElem? (i := 1363) (by decide +kernel), List.mem_of_getElem? (i := 1364) (by decide +kernel)⟩
theorem lw_p51 : lw_okq (⟨"OrderedTableModel", "answer", "(II)V"⟩, 79) := ⟨⟨by decide +kernel, by decide +kernel⟩, List.mem_of_getElem? (i := 1020) (by decide +kernel), List.mem_of_getElem? (i := 1367) (by decide +kernel), List.mem_of_getElem? (i := 1368) (by decide +kernel)⟩
theorem lw_p52 : lw_okq (⟨"OrderedTableModel", "execute", "(II)V"⟩, 79) := ⟨⟨by decide +kernel, by decide +kernel⟩, List.mem_of_getElem? (i := 1020) (by decide +kernel), List.mem_of_getElem? (i := 1371) (by decide +kernel), List.mem_of_getElem? (i := 1372) (by decide +kernel)⟩
theorem lw_p53 : lw_okq (⟨"OrderedTableModel", "follow", "(III)V"⟩, 79) := ⟨⟨by decide +kernel, by decide +kernel⟩, List.mem_of_getElem? (i := 1020) (by decide +kernel), List.mem_of_getElem? (i := 1375) (by decide +kernel), List.mem_of_getElem? (i := 1376) (by decide +kernel)⟩
theorem lw_p54 : lw_okq (⟨"OrderedTableModel", "turned", "(IIIIIIII)V"⟩, 79) := ⟨⟨by decide +kernel, by decide +kernel⟩, List.mem_of_getElem? (i := 1020) (by decide +kernel), List.mem_of_getElem? (i := 1382) (by decide +kernel), List.mem_of_getElem? (i := 1383) (by decide +kernel)⟩
theorem lw_p55 : lw_okq (⟨"OrderedTableModel", "merge", "(I)V"⟩, 79) := ⟨⟨by decide +kernel, by decide +kernel⟩, List.mem_of_getElem? (i := 1020) (by decide +kernel), List.mem_of_getElem? (i := 1386) (by decide +kernel), List.mem_of_getElem? (i := 1387) (by decide +kernel)⟩
theorem lw_p56 : lw_okq (⟨"OrderedTableModel", "isIn", "(II)Z"⟩, 79) := ⟨⟨by decide +kernel, by decide +kernel⟩, List.mem_of_getElem? (i := 1020) (by decide +kernel), List.mem_of_getElem? (i := 1390) (by decide +kernel), List.mem_of_getElem? (i := 1391) (by decide +kernel)⟩
theorem lw_p57 : lw_okq (⟨"OrderedTableModel", "normalOf", "(IIZ)I"⟩, 79) := ⟨⟨by decide +kernel, by decide +kernel⟩, List.mem_of_getElem? (i := 1020) (by decide +kernel), List.mem_of_getElem? (i := 1394) (by decide +kernel), List.mem_of_getElem? (i := 1395) (by decide +kernel)⟩
theorem lw_p58 : lw_okq (⟨"OrderedTableModel", "lengthOf", "(II)I"⟩, 79) := ⟨⟨by decide +kernel, by decide +kernel⟩, List.mem_of_getElem? (i := 1020) (by decide +kernel), List.mem_of_getElem? (i := 1398) (by decide +kernel), List.mem_of_getElem? (i := 1399) (by decide +kernel)⟩
theorem lw_p59 : lw_okq (⟨"OrderedTableModel", "mergedAt", "(IIII)I"⟩, 79) := ⟨⟨by decide +kernel, by decide +kernel⟩, List.mem_of_getElem? (i := 1020) (by decide +kernel), List.mem_of_getElem? (i := 1402) (by decide +kernel), List.mem_of_getElem? (i := 1403) (by decide +kernel)⟩
theorem lw_p60 : lw_okq (⟨"OrderedTableModel", "entryOf", "(III)I"⟩, 79) := ⟨⟨by decide +kernel, by decide +kernel⟩, List.mem_of_getElem? (i := 1020) (by decide +kernel), List.mem_of_getElem? (i := 1406) (by decide +kernel), List.mem_of_getElem? (i := 1407) (by decide +kernel)⟩
theorem lw_p61 : lw_okq (⟨"OrderedTableModel", "settle", "(I)V"⟩, 79) := ⟨⟨by decide +kernel, by decide +kernel⟩, List.mem_of_getElem? (i := 1020) (by decide +kernel), List.mem_of_getElem? (i := 1410) (by decide +kernel), List.mem_of_getElem? (i := 1411) (by decide +kernel)⟩
theorem lw_p62 : lw_okq (⟨"OrderedTableModel", "start", "(IIIII)V"⟩, 79) := ⟨⟨by decide +kernel, by decide +kernel⟩, List.mem_of_getElem? (i := 1020) (by decide +kernel), List.mem_of_getElem? (i := 1414) (by decide +kernel), List.mem_of_getElem? (i := 1415) (by decide +kernel)⟩
theorem lw_p63 : lw_okq (⟨"OrderedTableModel", "inView", "(IIIII)V"⟩, 79) := ⟨⟨by decide +kernel, by decide +kernel⟩, List.mem_of_getElem? (i := 1020) (by decide +kernel), List.mem_of_getElem? (i := 1418) (by decide +kernel), List.mem_of_getElem? (i := 1419) (by decide +kernel)⟩
def lw_privs_4 : List (MethodName × Nat) := [(⟨"OrderedTableModel", "take", "(I)V"⟩, 79), (⟨"OrderedTableModel", "unhold", "(II)V"⟩, 79), (⟨"OrderedTableModel", "append", "(II)V"⟩, 79), (⟨"OrderedTableModel", "answer", "(II)V"⟩, 79), (⟨"OrderedTableModel", "execute", "(II)V"⟩, 79), (⟨"OrderedTableModel", "follow", "(III)V"⟩, 79), (⟨"OrderedTableModel", "turned", "(IIIIIIII)V"⟩, 79), (⟨"OrderedTableModel", "merge", "(I)V"⟩, 79), (⟨"OrderedTableModel", "isIn", "(II)Z"⟩, 79), (⟨"OrderedTableModel", "normalOf", "(IIZ)I"⟩, 79), (⟨"OrderedTableModel", "lengthOf", "(II)I"⟩, 79), (⟨"OrderedTableModel", "mergedAt", "(IIII)I"⟩, 79), (⟨"OrderedTableModel", "entryOf", "(III)I"⟩, 79), (⟨"OrderedTableModel", "settle", "(I)V"⟩, 79), (⟨"OrderedTableModel", "start", "(IIIII)V"⟩, 79), (⟨"OrderedTableModel", "inView", "(IIIII)V"⟩, 79)]
theorem lw_r4 : ∀ q ∈ lw_privs_4, lw_okq q := List.forall_mem_cons.mpr ⟨lw_p48, List.forall_mem_cons.mpr ⟨lw_p49, List.forall_mem_cons.mpr ⟨lw_p50, List.forall_mem_cons.mpr ⟨lw_p51, List.forall_mem_cons.mpr ⟨lw_p52, List.forall_mem_cons.mpr ⟨lw_p53, List.forall_mem_cons.mpr ⟨lw_p54, List.forall_mem_cons.mpr ⟨lw_p55, List.forall_mem_cons.mpr ⟨lw_p56, List.forall_mem_cons.mpr ⟨lw_p57, List.forall_mem_cons.mpr ⟨lw_p58, List.forall_mem_cons.mpr ⟨lw_p59, List.forall_mem_cons.mpr ⟨lw_p60, List.forall_mem_cons.mpr ⟨lw_p61, List.forall_mem_cons.mpr ⟨lw_p62, List.forall_mem_cons.mpr ⟨lw_p63, fun _ h => absurd h List.not_mem_nil⟩⟩⟩⟩⟩⟩⟩⟩⟩⟩⟩⟩⟩⟩⟩⟩
theorem lw_p64 : lw_okq (⟨"OrderedTableModel", "lookup", "(III)V"⟩, 79) := ⟨⟨by decide +kernel, by decide +kernel⟩, List.mem_of_getElem? (i := 1020) (by decide +kernel), List.mem_of_getElem? (i := 1422) (by decide +kernel), List.mem_of_getElem? (i := 1423) (by decide +kernel)⟩
theorem lw_p65 : lw_okq (⟨"OrderedTableModel", "gapCommit", "(III)V"⟩, 79) := ⟨⟨by decide +kernel, by decide +kernel⟩, List.mem_of_getElem? (i := 1020) (by decide +kernel), List.mem_of_getElem? (i := 1426) (by decide +kernel), List.mem_of_getElem? (i := 1427) (by decide +kernel)⟩
theorem lw_p66 : lw_okq (⟨"OrderedTableModel", "gapReply", "(III)V"⟩, 79) := ⟨⟨by decide +kernel, by decide +kernel⟩, List.mem_of_getElem? (i := 1020) (by decide +kernel), List.mem_of_getElem? (i := 1430) (by decide +kernel), List.mem_of_getElem? (i := 1431) (by decide +kernel)⟩
theorem lw_p67 : lw_okq (⟨"OrderedTableModel", "sync", "(II)V"⟩, 79) := ⟨⟨by decide +kernel, by decide +kernel⟩, List.mem_of_getElem? (i := 1020) (by decide +kernel), List.mem_of_getElem? (i := 1434) (by decide +kernel), List.mem_of_getElem? (i := 1435) (by decide +kernel)⟩
theorem lw_p68 : lw_okq (⟨"OrderedTableModel", "syncReply", "(III)V"⟩, 79) := ⟨⟨by decide +kernel, by decide +kernel⟩, List.mem_of_getElem? (i := 1020) (by decide +kernel), List.mem_of_getElem? (i := 1438) (by decide +kernel), List.mem_of_getElem? (i := 1439) (by decide +kernel)⟩
theorem lw_p69 : lw_okq (⟨"OrderedTableModel", "may", "(I)Z"⟩, 79) := ⟨⟨by decide +kernel, by decide +kernel⟩, List.mem_of_getElem? (i := 1020) (by decide +kernel), List.mem_of_getElem? (i := 1462) (by decide +kernel), List.mem_of_getElem? (i := 1463) (by decide +kernel)⟩
theorem lw_p70 : lw_okq (⟨"OrderedTableModel", "executed", "(I)I"⟩, 79) := ⟨⟨by decide +kernel, by decide +kernel⟩, List.mem_of_getElem? (i := 1020) (by decide +kernel), List.mem_of_getElem? (i := 1494) (by decide +kernel), List.mem_of_getElem? (i := 1495) (by decide +kernel)⟩
theorem lw_p71 : lw_okq (⟨"OrderedTableModel", "has", "(II)Z"⟩, 79) := ⟨⟨by decide +kernel, by decide +kernel⟩, List.mem_of_getElem? (i := 1020) (by decide +kernel), List.mem_of_getElem? (i := 1518) (by decide +kernel), List.mem_of_getElem? (i := 1519) (by decide +kernel)⟩
def lw_privs_5 : List (MethodName × Nat) := [(⟨"OrderedTableModel", "lookup", "(III)V"⟩, 79), (⟨"OrderedTableModel", "gapCommit", "(III)V"⟩, 79), (⟨"OrderedTableModel", "gapReply", "(III)V"⟩, 79), (⟨"OrderedTableModel", "sync", "(II)V"⟩, 79), (⟨"OrderedTableModel", "syncReply", "(III)V"⟩, 79), (⟨"OrderedTableModel", "may", "(I)Z"⟩, 79), (⟨"OrderedTableModel", "executed", "(I)I"⟩, 79), (⟨"OrderedTableModel", "has", "(II)Z"⟩, 79)]
theorem lw_r5 : ∀ q ∈ lw_privs_5, lw_okq q := List.forall_mem_cons.mpr ⟨lw_p64, List.forall_mem_cons.mpr ⟨lw_p65, List.forall_mem_cons.mpr ⟨lw_p66, List.forall_mem_cons.mpr ⟨lw_p67, List.forall_mem_cons.mpr ⟨lw_p68, List.forall_mem_cons.mpr ⟨lw_p69, List.forall_mem_cons.mpr ⟨lw_p70, List.forall_mem_cons.mpr ⟨lw_p71, fun _ h => absurd h List.not_mem_nil⟩⟩⟩⟩⟩⟩⟩⟩
def lw_privs : List (MethodName × Nat) := lw_privs_1 ++ (lw_privs_2 ++ (lw_privs_3 ++ (lw_privs_4 ++ (lw_privs_5))))
def lw_tbl : List Cond := k2_sels lw_privs ++ tables_1
theorem lw_privs_ok : ∀ q ∈ lw_privs, lw_okq q := by
  show ∀ q ∈ lw_privs_1 ++ (lw_privs_2 ++ (lw_privs_3 ++ (lw_privs_4 ++ (lw_privs_5)))), lw_okq q
  exact List.forall_mem_append.mpr ⟨lw_r1, List.forall_mem_append.mpr ⟨lw_r2, List.forall_mem_append.mpr ⟨lw_r3, List.forall_mem_append.mpr ⟨lw_r4, lw_r5⟩⟩⟩⟩

def RX0 : String := "OrderedTable$AcceptedOnes"
def TX0 : u_T := fun k => match k with
  | 0 => ("OrderedTable$AcceptedOnes", "total", "I", false)
  | 1 => ("OrderedTable$AcceptedOnes", "requests", "[I", true)
  | 2 => ("OrderedTable$AcceptedOnes", "views", "[LOrderedTable$View;", true)
  | 3 => ("OrderedTable$AcceptedOnes", "slots", "[I", true)
  | 4 => ("OrderedTable$AcceptedOnes", "answers", "[I", true)
  | 5 => ("OrderedTable$AcceptedOnes", "marks", "[I", true)
  | 6 => ("OrderedTable$AcceptedOnes", "kept", "I", false)
  | _ => ("OrderedTable$AcceptedOnes", "next", "I", false)
def tyX0 : Nat → FieldType := fun k => match k with
  | 0 => .int
  | 1 => .array .int
  | 2 => .array (.object "OrderedTable$View")
  | 3 => .array .int
  | 4 => .array .int
  | 5 => .array .int
  | 6 => .int
  | _ => .int
abbrev wsX00 : List Cond := u_ws RX0 TX0 8
theorem nmX0 : ∀ a, a < 8 → ∀ b, b < 8 → a ≠ b → (TX0 a).2.1 ≠ (TX0 b).2.1 := by decide +kernel
theorem tyX0_ok : ∀ k, k < 8 → parseFieldDescriptor (TX0 k).2.2.1 = some (tyX0 k) := by decide +kernel
abbrev cX0_init : ByteArray := prog_2_method_1_code
def yX0_init : MethodName := ⟨RX0, "<init>", "()V"⟩
abbrev cX0_add : ByteArray := prog_2_method_2_code
def yX0_add : MethodName := ⟨RX0, "add", "(ILOrderedTable$View;II)V"⟩
abbrev cX0_unmark : ByteArray := prog_2_method_3_code
def yX0_unmark : MethodName := ⟨RX0, "unmark", "()V"⟩
abbrev cX0_markNotHeldTo : ByteArray := prog_2_method_4_code
def yX0_markNotHeldTo : MethodName := ⟨RX0, "markNotHeldTo", "(LOrderedTable$Replica;LOrderedTable$Words;)V"⟩
abbrev cX0_marked : ByteArray := prog_2_method_5_code
def yX0_marked : MethodName := ⟨RX0, "marked", "()I"⟩
def RX1 : String := "OrderedTable$Air"
def TX1 : u_T := fun k => match k with
  | 0 => ("OrderedTable$Air", "messages", "[LOrderedTable$Message;", true)
  | 1 => ("OrderedTable$Air", "lying", "I", false)
  | 2 => ("OrderedTable$Air", "sent", "I", false)
  | 3 => ("OrderedTable$Air", "lost", "I", false)
  | 4 => ("OrderedTable$Air", "takenOut", "LOrderedTable$Message;", false)
  | _ => ("OrderedTable$Air", "noRoom", "LOrderedTable$Message;", true)
def tyX1 : Nat → FieldType := fun k => match k with
  | 0 => .array (.object "OrderedTable$Message")
  | 1 => .int
  | 2 => .int
  | 3 => .int
  | 4 => .object "OrderedTable$Message"
  | _ => .object "OrderedTable$Message"
abbrev wsX10 : List Cond := u_ws RX1 TX1 6
theorem nmX1 : ∀ a, a < 6 → ∀ b, b < 6 → a ≠ b → (TX1 a).2.1 ≠ (TX1 b).2.1 := by decide +kernel
theorem tyX1_ok : ∀ k, k < 6 → parseFieldDescriptor (TX1 k).2.2.1 = some (tyX1 k) := by decide +kernel
abbrev cX1_init : ByteArray := prog_3_method_1_code
def yX1_init : MethodName := ⟨RX1, "<init>", "()V"⟩
abbrev cX1_send : ByteArray := prog_3_method_2_code
def yX1_send : MethodName := ⟨RX1, "send", "(III)LOrderedTable$Message;"⟩
abbrev cX1_placeOf : ByteArray := prog_3_method_3_code
def yX1_placeOf : MethodName := ⟨RX1, "placeOf", "(I)I"⟩
abbrev cX1_takeOut : ByteArray := prog_3_method_4_code
def yX1_takeOut : MethodName := ⟨RX1, "takeOut", "(I)LOrderedTable$Message;"⟩
def RX2 : String := "OrderedTable$Client"
def TX2 : u_T := fun k => match k with
  | 0 => ("OrderedTable$Client", "asked", "I", false)
  | 1 => ("OrderedTable$Client", "latest", "I", false)
  | 2 => ("OrderedTable$Client", "state", "I", false)
  | 3 => ("OrderedTable$Client", "acceptedView", "LOrderedTable$View;", false)
  | 4 => ("OrderedTable$Client", "acceptedSlot", "I", false)
  | 5 => ("OrderedTable$Client", "answer", "I", false)
  | 6 => ("OrderedTable$Client", "size", "I", true)
  | 7 => ("OrderedTable$Client", "views", "[LOrderedTable$View;", true)
  | 8 => ("OrderedTable$Client", "slots", "[I", true)
  | 9 => ("OrderedTable$Client", "senders", "[I", true)
  | 10 => ("OrderedTable$Client", "answers", "[I", true)
  | 11 => ("OrderedTable$Client", "places", "I", false)
  | _ => ("OrderedTable$Client", "next", "I", false)
def tyX2 : Nat → FieldType := fun k => match k with
  | 0 => .int
  | 1 => .int
  | 2 => .int
  | 3 => .object "OrderedTable$View"
  | 4 => .int
  | 5 => .int
  | 6 => .int
  | 7 => .array (.object "OrderedTable$View")
  | 8 => .array .int
  | 9 => .array .int
  | 10 => .array .int
  | 11 => .int
  | _ => .int
abbrev wsX20 : List Cond := u_ws RX2 TX2 13
theorem nmX2 : ∀ a, a < 13 → ∀ b, b < 13 → a ≠ b → (TX2 a).2.1 ≠ (TX2 b).2.1 := by decide +kernel
theorem tyX2_ok : ∀ k, k < 13 → parseFieldDescriptor (TX2 k).2.2.1 = some (tyX2 k) := by decide +kernel
abbrev cX2_init : ByteArray := prog_4_method_1_code
def yX2_init : MethodName := ⟨RX2, "<init>", "(I)V"⟩
abbrev cX2_ask : ByteArray := prog_4_method_2_code
def yX2_ask : MethodName := ⟨RX2, "ask", "(I)V"⟩
abbrev cX2_hear : ByteArray := prog_4_method_3_code
def yX2_hear : MethodName := ⟨RX2, "hear", "(LOrderedTable$Message;)Z"⟩
abbrev cX2_placeOf : ByteArray := prog_4_method_4_code
def yX2_placeOf : MethodName := ⟨RX2, "placeOf", "(LOrderedTable$View;I)I"⟩
def RX3 : String := "OrderedTable$Held"
def TX3 : u_T := fun k => match k with
  | 0 => ("OrderedTable$Held", "slots", "[I", true)
  | 1 => ("OrderedTable$Held", "requests", "[I", true)
  | _ => ("OrderedTable$Held", "size", "I", false)
def tyX3 : Nat → FieldType := fun k => match k with
  | 0 => .array .int
  | 1 => .array .int
  | _ => .int
abbrev wsX30 : List Cond := u_ws RX3 TX3 3
theorem nmX3 : ∀ a, a < 3 → ∀ b, b < 3 → a ≠ b → (TX3 a).2.1 ≠ (TX3 b).2.1 := by decide +kernel
theorem tyX3_ok : ∀ k, k < 3 → parseFieldDescriptor (TX3 k).2.2.1 = some (tyX3 k) := by decide +kernel
abbrev cX3_init : ByteArray := prog_5_method_1_code
def yX3_init : MethodName := ⟨RX3, "<init>", "()V"⟩
abbrev cX3_has : ByteArray := prog_5_method_2_code
def yX3_has : MethodName := ⟨RX3, "has", "(I)Z"⟩
abbrev cX3_put : ByteArray := prog_5_method_3_code
def yX3_put : MethodName := ⟨RX3, "put", "(II)V"⟩
abbrev cX3_remove : ByteArray := prog_5_method_4_code
def yX3_remove : MethodName := ⟨RX3, "remove", "(I)I"⟩
abbrev cX3_indexOf : ByteArray := prog_5_method_5_code
def yX3_indexOf : MethodName := ⟨RX3, "indexOf", "(I)I"⟩
def RX4 : String := "OrderedTable$Log"
def TX4 : u_T := fun k => match k with
  | 0 => ("OrderedTable$Log", "entries", "[I", true)
  | _ => ("OrderedTable$Log", "length", "I", false)
def tyX4 : Nat → FieldType := fun k => match k with
  | 0 => .array .int
  | _ => .int
abbrev wsX40 : List Cond := u_ws RX4 TX4 2
theorem nmX4 : ∀ a, a < 2 → ∀ b, b < 2 → a ≠ b → (TX4 a).2.1 ≠ (TX4 b).2.1 := by decide +kernel
theorem tyX4_ok : ∀ k, k < 2 → parseFieldDescriptor (TX4 k).2.2.1 = some (tyX4 k) := by decide +kernel
abbrev cX4_init : ByteArray := prog_6_method_1_code
def yX4_init : MethodName := ⟨RX4, "<init>", "()V"⟩
abbrev cX4_has : ByteArray := prog_6_method_2_code
def yX4_has : MethodName := ⟨RX4, "has", "(I)Z"⟩
abbrev cX4_isFull : ByteArray := prog_6_method_3_code
def yX4_isFull : MethodName := ⟨RX4, "isFull", "()Z"⟩
abbrev cX4_at : ByteArray := prog_6_method_4_code
def yX4_at : MethodName := ⟨RX4, "at", "(I)I"⟩
abbrev cX4_put : ByteArray := prog_6_method_5_code
def yX4_put : MethodName := ⟨RX4, "put", "(II)V"⟩
abbrev cX4_copy : ByteArray := prog_6_method_6_code
def yX4_copy : MethodName := ⟨RX4, "copy", "(LOrderedTable$Log;)V"⟩
abbrev cX4_copyFirst : ByteArray := prog_6_method_7_code
def yX4_copyFirst : MethodName := ⟨RX4, "copyFirst", "(LOrderedTable$Log;I)V"⟩
def RX5 : String := "OrderedTable$Message"
def TX5 : u_T := fun k => match k with
  | 0 => ("OrderedTable$Message", "number", "I", false)
  | 1 => ("OrderedTable$Message", "kind", "I", false)
  | 2 => ("OrderedTable$Message", "from", "I", false)
  | 3 => ("OrderedTable$Message", "to", "I", false)
  | 4 => ("OrderedTable$Message", "view", "LOrderedTable$View;", false)
  | 5 => ("OrderedTable$Message", "session", "I", false)
  | 6 => ("OrderedTable$Message", "position", "I", false)
  | 7 => ("OrderedTable$Message", "request", "I", false)
  | 8 => ("OrderedTable$Message", "answer", "I", false)
  | 9 => ("OrderedTable$Message", "lastNormal", "LOrderedTable$View;", false)
  | 10 => ("OrderedTable$Message", "base", "I", false)
  | _ => ("OrderedTable$Message", "log", "LOrderedTable$Log;", true)
def tyX5 : Nat → FieldType := fun k => match k with
  | 0 => .int
  | 1 => .int
  | 2 => .int
  | 3 => .int
  | 4 => .object "OrderedTable$View"
  | 5 => .int
  | 6 => .int
  | 7 => .int
  | 8 => .int
  | 9 => .object "OrderedTable$View"
  | 10 => .int
  | _ => .object "OrderedTable$Log"
abbrev wsX50 : List Cond := u_ws RX5 TX5 12
theorem nmX5 : ∀ a, a < 12 → ∀ b, b < 12 → a ≠ b → (TX5 a).2.1 ≠ (TX5 b).2.1 := by decide +kernel
theorem tyX5_ok : ∀ k, k < 12 → parseFieldDescriptor (TX5 k).2.2.1 = some (tyX5 k) := by decide +kernel
abbrev cX5_init : ByteArray := prog_7_method_1_code
def yX5_init : MethodName := ⟨RX5, "<init>", "()V"⟩
def RX6 : String := "OrderedTable$Replica"
def TX6 : u_T := fun k => match k with
  | 0 => ("OrderedTable$Replica", "log", "LOrderedTable$Log;", true)
  | 1 => ("OrderedTable$Replica", "held", "LOrderedTable$Held;", true)
  | 2 => ("OrderedTable$Replica", "isDown", "Z", false)
  | 3 => ("OrderedTable$Replica", "status", "I", false)
  | 4 => ("OrderedTable$Replica", "view", "LOrderedTable$View;", false)
  | 5 => ("OrderedTable$Replica", "lastNormal", "LOrderedTable$View;", false)
  | 6 => ("OrderedTable$Replica", "base", "I", false)
  | 7 => ("OrderedTable$Replica", "point", "I", false)
  | 8 => ("OrderedTable$Replica", "synced", "I", false)
  | 9 => ("OrderedTable$Replica", "me", "I", true)
  | 10 => ("OrderedTable$Replica", "size", "I", true)
  | 11 => ("OrderedTable$Replica", "requests", "LOrderedTable$Requests;", true)
  | 12 => ("OrderedTable$Replica", "words", "LOrderedTable$Words;", true)
  | 13 => ("OrderedTable$Replica", "air", "LOrderedTable$Air;", true)
  | _ => ("OrderedTable$Replica", "tally", "LOrderedTable$Tally;", true)
def tyX6 : Nat → FieldType := fun k => match k with
  | 0 => .object "OrderedTable$Log"
  | 1 => .object "OrderedTable$Held"
  | 2 => .boolean
  | 3 => .int
  | 4 => .object "OrderedTable$View"
  | 5 => .object "OrderedTable$View"
  | 6 => .int
  | 7 => .int
  | 8 => .int
  | 9 => .int
  | 10 => .int
  | 11 => .object "OrderedTable$Requests"
  | 12 => .object "OrderedTable$Words"
  | 13 => .object "OrderedTable$Air"
  | _ => .object "OrderedTable$Tally"
abbrev wsX60 : List Cond := u_ws RX6 TX6 15
theorem nmX6 : ∀ a, a < 15 → ∀ b, b < 15 → a ≠ b → (TX6 a).2.1 ≠ (TX6 b).2.1 := by decide +kernel
theorem tyX6_ok : ∀ k, k < 15 → parseFieldDescriptor (TX6 k).2.2.1 = some (tyX6 k) := by decide +kernel
abbrev cX6_init : ByteArray := prog_8_method_1_code
def yX6_init : MethodName := ⟨RX6, "<init>", "(IILOrderedTable$Requests;LOrderedTable$Words;LOrderedTable$Air;)V"⟩
abbrev cX6_leads : ByteArray := prog_8_method_2_code
def yX6_leads : MethodName := ⟨RX6, "leads", "()Z"⟩
abbrev cX6_executed : ByteArray := prog_8_method_3_code
def yX6_executed : MethodName := ⟨RX6, "executed", "()I"⟩
abbrev cX6_forget : ByteArray := prog_8_method_4_code
def yX6_forget : MethodName := ⟨RX6, "forget", "()V"⟩
abbrev cX6_turnTo : ByteArray := prog_8_method_5_code
def yX6_turnTo : MethodName := ⟨RX6, "turnTo", "(LOrderedTable$View;)V"⟩
abbrev cX6_askAgain : ByteArray := prog_8_method_6_code
def yX6_askAgain : MethodName := ⟨RX6, "askAgain", "()V"⟩
abbrev cX6_receiveStamped : ByteArray := prog_8_method_7_code
def yX6_receiveStamped : MethodName := ⟨RX6, "receiveStamped", "(LOrderedTable$Message;)V"⟩
abbrev cX6_receiveOfAnyView : ByteArray := prog_8_method_8_code
def yX6_receiveOfAnyView : MethodName := ⟨RX6, "receiveOfAnyView", "(LOrderedTable$Message;)V"⟩
abbrev cX6_receiveOfItsView : ByteArray := prog_8_method_9_code
def yX6_receiveOfItsView : MethodName := ⟨RX6, "receiveOfItsView", "(LOrderedTable$Message;)V"⟩
abbrev cX6_receiveLookup : ByteArray := prog_8_method_10_code
def yX6_receiveLookup : MethodName := ⟨RX6, "receiveLookup", "(II)V"⟩
abbrev cX6_receiveFound : ByteArray := prog_8_method_11_code
def yX6_receiveFound : MethodName := ⟨RX6, "receiveFound", "(II)V"⟩
abbrev cX6_receiveGapCommit : ByteArray := prog_8_method_12_code
def yX6_receiveGapCommit : MethodName := ⟨RX6, "receiveGapCommit", "(I)V"⟩
abbrev cX6_receiveGapReply : ByteArray := prog_8_method_13_code
def yX6_receiveGapReply : MethodName := ⟨RX6, "receiveGapReply", "(II)V"⟩
abbrev cX6_receiveSync : ByteArray := prog_8_method_14_code
def yX6_receiveSync : MethodName := ⟨RX6, "receiveSync", "(LOrderedTable$Message;)V"⟩
abbrev cX6_receiveSyncReply : ByteArray := prog_8_method_15_code
def yX6_receiveSyncReply : MethodName := ⟨RX6, "receiveSyncReply", "(II)V"⟩
abbrev cX6_receivePoint : ByteArray := prog_8_method_16_code
def yX6_receivePoint : MethodName := ⟨RX6, "receivePoint", "(I)V"⟩
abbrev cX6_receiveTurned : ByteArray := prog_8_method_17_code
def yX6_receiveTurned : MethodName := ⟨RX6, "receiveTurned", "(LOrderedTable$Message;)V"⟩
abbrev cX6_receiveStart : ByteArray := prog_8_method_18_code
def yX6_receiveStart : MethodName := ⟨RX6, "receiveStart", "(LOrderedTable$Message;)V"⟩
abbrev cX6_becomeNormal : ByteArray := prog_8_method_19_code
def yX6_becomeNormal : MethodName := ⟨RX6, "becomeNormal", "()V"⟩
abbrev cX6_takeHeld : ByteArray := prog_8_method_20_code
def yX6_takeHeld : MethodName := ⟨RX6, "takeHeld", "()V"⟩
abbrev cX6_reply : ByteArray := prog_8_method_21_code
def yX6_reply : MethodName := ⟨RX6, "reply", "(II)V"⟩
abbrev cX6_mergeLogs : ByteArray := prog_8_method_22_code
def yX6_mergeLogs : MethodName := ⟨RX6, "mergeLogs", "()V"⟩
abbrev cX6_isMerged : ByteArray := prog_8_method_23_code
def yX6_isMerged : MethodName := ⟨RX6, "isMerged", "(ILOrderedTable$View;)Z"⟩
abbrev cX6_mergedEntry : ByteArray := prog_8_method_24_code
def yX6_mergedEntry : MethodName := ⟨RX6, "mergedEntry", "(ILOrderedTable$View;)I"⟩
abbrev cX6_isEnough : ByteArray := prog_8_method_25_code
def yX6_isEnough : MethodName := ⟨RX6, "isEnough", "(I)Z"⟩
abbrev cX6_sendTurns : ByteArray := prog_8_method_26_code
def yX6_sendTurns : MethodName := ⟨RX6, "sendTurns", "()V"⟩
abbrev cX6_sendToOthers : ByteArray := prog_8_method_27_code
def yX6_sendToOthers : MethodName := ⟨RX6, "sendToOthers", "(II)V"⟩
abbrev cX6_sendLogToOthers : ByteArray := prog_8_method_28_code
def yX6_sendLogToOthers : MethodName := ⟨RX6, "sendLogToOthers", "(I)V"⟩
abbrev cX6_sendLog : ByteArray := prog_8_method_29_code
def yX6_sendLog : MethodName := ⟨RX6, "sendLog", "(II)V"⟩
abbrev cX6_send : ByteArray := prog_8_method_30_code
def yX6_send : MethodName := ⟨RX6, "send", "(III)LOrderedTable$Message;"⟩
def RX7 : String := "OrderedTable$Requests"
def TX7 : u_T := fun k => match k with
  | 0 => ("OrderedTable$Requests", "client", "[I", true)
  | 1 => ("OrderedTable$Requests", "number", "[I", true)
  | 2 => ("OrderedTable$Requests", "kind", "[I", true)
  | 3 => ("OrderedTable$Requests", "key", "[I", true)
  | 4 => ("OrderedTable$Requests", "word", "[I", true)
  | _ => ("OrderedTable$Requests", "latest", "I", false)
def tyX7 : Nat → FieldType := fun k => match k with
  | 0 => .array .int
  | 1 => .array .int
  | 2 => .array .int
  | 3 => .array .int
  | 4 => .array .int
  | _ => .int
abbrev wsX70 : List Cond := u_ws RX7 TX7 6
theorem nmX7 : ∀ a, a < 6 → ∀ b, b < 6 → a ≠ b → (TX7 a).2.1 ≠ (TX7 b).2.1 := by decide +kernel
theorem tyX7_ok : ∀ k, k < 6 → parseFieldDescriptor (TX7 k).2.2.1 = some (tyX7 k) := by decide +kernel
abbrev cX7_init : ByteArray := prog_9_method_1_code
def yX7_init : MethodName := ⟨RX7, "<init>", "()V"⟩
abbrev cX7_add : ByteArray := prog_9_method_2_code
def yX7_add : MethodName := ⟨RX7, "add", "(IIIII)I"⟩
def RX8 : String := "OrderedTable$Tally"
def TX8 : u_T := fun k => match k with
  | 0 => ("OrderedTable$Tally", "gapReplies", "I", false)
  | 1 => ("OrderedTable$Tally", "syncReplies", "I", false)
  | 2 => ("OrderedTable$Tally", "syncRepliesFor", "I", false)
  | 3 => ("OrderedTable$Tally", "turned", "I", false)
  | 4 => ("OrderedTable$Tally", "lastNormals", "[LOrderedTable$View;", true)
  | 5 => ("OrderedTable$Tally", "bases", "[I", true)
  | _ => ("OrderedTable$Tally", "logs", "[LOrderedTable$Log;", true)
def tyX8 : Nat → FieldType := fun k => match k with
  | 0 => .int
  | 1 => .int
  | 2 => .int
  | 3 => .int
  | 4 => .array (.object "OrderedTable$View")
  | 5 => .array .int
  | _ => .array (.object "OrderedTable$Log")
abbrev wsX80 : List Cond := u_ws RX8 TX8 7
theorem nmX8 : ∀ a, a < 7 → ∀ b, b < 7 → a ≠ b → (TX8 a).2.1 ≠ (TX8 b).2.1 := by decide +kernel
theorem tyX8_ok : ∀ k, k < 7 → parseFieldDescriptor (TX8 k).2.2.1 = some (tyX8 k) := by decide +kernel
abbrev cX8_init : ByteArray := prog_10_method_1_code
def yX8_init : MethodName := ⟨RX8, "<init>", "(I)V"⟩
abbrev cX8_clear : ByteArray := prog_10_method_2_code
def yX8_clear : MethodName := ⟨RX8, "clear", "()V"⟩
abbrev cX8_addSyncReply : ByteArray := prog_10_method_3_code
def yX8_addSyncReply : MethodName := ⟨RX8, "addSyncReply", "(II)V"⟩
abbrev cX8_addTurned : ByteArray := prog_10_method_4_code
def yX8_addTurned : MethodName := ⟨RX8, "addTurned", "(LOrderedTable$Message;)V"⟩
abbrev cX8_hasTurned : ByteArray := prog_10_method_5_code
def yX8_hasTurned : MethodName := ⟨RX8, "hasTurned", "(I)Z"⟩
def RX9 : String := "OrderedTable$View"
def TX9 : u_T := fun k => match k with
  | 0 => ("OrderedTable$View", "lead", "I", true)
  | _ => ("OrderedTable$View", "session", "I", true)
def tyX9 : Nat → FieldType := fun k => match k with
  | 0 => .int
  | _ => .int
abbrev wsX90 : List Cond := u_ws RX9 TX9 2
theorem nmX9 : ∀ a, a < 2 → ∀ b, b < 2 → a ≠ b → (TX9 a).2.1 ≠ (TX9 b).2.1 := by decide +kernel
theorem tyX9_ok : ∀ k, k < 2 → parseFieldDescriptor (TX9 k).2.2.1 = some (tyX9 k) := by decide +kernel
abbrev cX9_init : ByteArray := prog_11_method_1_code
def yX9_init : MethodName := ⟨RX9, "<init>", "(II)V"⟩
abbrev cX9_isSame : ByteArray := prog_11_method_2_code
def yX9_isSame : MethodName := ⟨RX9, "isSame", "(LOrderedTable$View;)Z"⟩
abbrev cX9_isBehind : ByteArray := prog_11_method_3_code
def yX9_isBehind : MethodName := ⟨RX9, "isBehind", "(LOrderedTable$View;)Z"⟩
abbrev cX9_isLater : ByteArray := prog_11_method_4_code
def yX9_isLater : MethodName := ⟨RX9, "isLater", "(LOrderedTable$View;)Z"⟩
abbrev cX9_joinedWith : ByteArray := prog_11_method_5_code
def yX9_joinedWith : MethodName := ⟨RX9, "joinedWith", "(LOrderedTable$View;)LOrderedTable$View;"⟩
abbrev cX9_leader : ByteArray := prog_11_method_6_code
def yX9_leader : MethodName := ⟨RX9, "leader", "(I)I"⟩
def RX10 : String := "OrderedTable$Words"
def TX10 : u_T := fun k => match k with
  | 0 => ("OrderedTable$Words", "words", "[I", true)
  | 1 => ("OrderedTable$Words", "requests", "LOrderedTable$Requests;", true)
  | 2 => ("OrderedTable$Words", "latest", "[I", true)
  | 3 => ("OrderedTable$Words", "executed", "[I", true)
  | _ => ("OrderedTable$Words", "answers", "[I", true)
def tyX10 : Nat → FieldType := fun k => match k with
  | 0 => .array .int
  | 1 => .object "OrderedTable$Requests"
  | 2 => .array .int
  | 3 => .array .int
  | _ => .array .int
abbrev wsX100 : List Cond := u_ws RX10 TX10 5
theorem nmX10 : ∀ a, a < 5 → ∀ b, b < 5 → a ≠ b → (TX10 a).2.1 ≠ (TX10 b).2.1 := by decide +kernel
theorem tyX10_ok : ∀ k, k < 5 → parseFieldDescriptor (TX10 k).2.2.1 = some (tyX10 k) := by decide +kernel
abbrev cX10_init : ByteArray := prog_12_method_1_code
def yX10_init : MethodName := ⟨RX10, "<init>", "(LOrderedTable$Requests;)V"⟩
abbrev cX10_execute : ByteArray := prog_12_method_2_code
def yX10_execute : MethodName := ⟨RX10, "execute", "(LOrderedTable$Log;I)V"⟩
abbrev cX10_hasExecuted : ByteArray := prog_12_method_3_code
def yX10_hasExecuted : MethodName := ⟨RX10, "hasExecuted", "(I)Z"⟩
abbrev cX10_isLatest : ByteArray := prog_12_method_4_code
def yX10_isLatest : MethodName := ⟨RX10, "isLatest", "(I)Z"⟩
abbrev cX10_answerTo : ByteArray := prog_12_method_5_code
def yX10_answerTo : MethodName := ⟨RX10, "answerTo", "(I)I"⟩
abbrev cX10_isNew : ByteArray := prog_12_method_6_code
def yX10_isNew : MethodName := ⟨RX10, "isNew", "(I)Z"⟩
abbrev cX10_executeRequest : ByteArray := prog_12_method_7_code
def yX10_executeRequest : MethodName := ⟨RX10, "executeRequest", "(I)V"⟩
def RX11 : String := "OrderedTable"
def TX11 : u_T := fun k => match k with
  | 0 => ("OrderedTable", "size", "I", true)
  | 1 => ("OrderedTable", "requests", "LOrderedTable$Requests;", true)
  | 2 => ("OrderedTable", "words", "LOrderedTable$Words;", true)
  | 3 => ("OrderedTable", "air", "LOrderedTable$Air;", true)
  | 4 => ("OrderedTable", "replicas", "[LOrderedTable$Replica;", true)
  | 5 => ("OrderedTable", "clients", "[LOrderedTable$Client;", true)
  | 6 => ("OrderedTable", "accepted", "LOrderedTable$AcceptedOnes;", true)
  | 7 => ("OrderedTable", "sequencerIsUp", "Z", false)
  | 8 => ("OrderedTable", "session", "I", false)
  | _ => ("OrderedTable", "count", "I", false)
def tyX11 : Nat → FieldType := fun k => match k with
  | 0 => .int
  | 1 => .object "OrderedTable$Requests"
  | 2 => .object "OrderedTable$Words"
  | 3 => .object "OrderedTable$Air"
  | 4 => .array (.object "OrderedTable$Replica")
  | 5 => .array (.object "OrderedTable$Client")
  | 6 => .object "OrderedTable$AcceptedOnes"
  | 7 => .boolean
  | 8 => .int
  | _ => .int
abbrev wsX110 : List Cond := u_ws RX11 TX11 10
theorem nmX11 : ∀ a, a < 10 → ∀ b, b < 10 → a ≠ b → (TX11 a).2.1 ≠ (TX11 b).2.1 := by decide +kernel
theorem tyX11_ok : ∀ k, k < 10 → parseFieldDescriptor (TX11 k).2.2.1 = some (tyX11 k) := by decide +kernel
abbrev cX11_init : ByteArray := prog_1_method_1_code
def yX11_init : MethodName := ⟨RX11, "<init>", "(I)V"⟩
abbrev cX11_request : ByteArray := prog_1_method_2_code
def yX11_request : MethodName := ⟨RX11, "request", "(IIII)I"⟩
abbrev cX11_again : ByteArray := prog_1_method_3_code
def yX11_again : MethodName := ⟨RX11, "again", "(I)V"⟩
abbrev cX11_deliver : ByteArray := prog_1_method_4_code
def yX11_deliver : MethodName := ⟨RX11, "deliver", "(I)V"⟩
abbrev cX11_lose : ByteArray := prog_1_method_5_code
def yX11_lose : MethodName := ⟨RX11, "lose", "(I)V"⟩
abbrev cX11_flow : ByteArray := prog_1_method_6_code
def yX11_flow : MethodName := ⟨RX11, "flow", "(I)I"⟩
abbrev cX11_down : ByteArray := prog_1_method_7_code
def yX11_down : MethodName := ⟨RX11, "down", "(I)V"⟩
abbrev cX11_up : ByteArray := prog_1_method_8_code
def yX11_up : MethodName := ⟨RX11, "up", "(I)V"⟩
abbrev cX11_suspect : ByteArray := prog_1_method_9_code
def yX11_suspect : MethodName := ⟨RX11, "suspect", "(I)V"⟩
abbrev cX11_nudge : ByteArray := prog_1_method_10_code
def yX11_nudge : MethodName := ⟨RX11, "nudge", "(I)I"⟩
abbrev cX11_sync : ByteArray := prog_1_method_11_code
def yX11_sync : MethodName := ⟨RX11, "sync", "(I)V"⟩
abbrev cX11_fail : ByteArray := prog_1_method_12_code
def yX11_fail : MethodName := ⟨RX11, "fail", "()Z"⟩
abbrev cX11_install : ByteArray := prog_1_method_13_code
def yX11_install : MethodName := ⟨RX11, "install", "()I"⟩
abbrev cX11_replica : ByteArray := prog_1_method_14_code
def yX11_replica : MethodName := ⟨RX11, "replica", "(II)I"⟩
abbrev cX11_entry : ByteArray := prog_1_method_15_code
def yX11_entry : MethodName := ⟨RX11, "entry", "(III)I"⟩
abbrev cX11_word : ByteArray := prog_1_method_16_code
def yX11_word : MethodName := ⟨RX11, "word", "(II)I"⟩
abbrev cX11_client : ByteArray := prog_1_method_17_code
def yX11_client : MethodName := ⟨RX11, "client", "(II)I"⟩
abbrev cX11_answer : ByteArray := prog_1_method_18_code
def yX11_answer : MethodName := ⟨RX11, "answer", "(I)I"⟩
abbrev cX11_about : ByteArray := prog_1_method_19_code
def yX11_about : MethodName := ⟨RX11, "about", "(I)I"⟩
abbrev cX11_message : ByteArray := prog_1_method_20_code
def yX11_message : MethodName := ⟨RX11, "message", "(II)I"⟩
abbrev cX11_broken : ByteArray := prog_1_method_21_code
def yX11_broken : MethodName := ⟨RX11, "broken", "()I"⟩
abbrev cX11_isClient : ByteArray := prog_1_method_22_code
def yX11_isClient : MethodName := ⟨RX11, "isClient", "(I)Z"⟩
abbrev cX11_isKey : ByteArray := prog_1_method_23_code
def yX11_isKey : MethodName := ⟨RX11, "isKey", "(I)Z"⟩
abbrev cX11_isReplica : ByteArray := prog_1_method_24_code
def yX11_isReplica : MethodName := ⟨RX11, "isReplica", "(I)Z"⟩
abbrev cX11_downNow : ByteArray := prog_1_method_25_code
def yX11_downNow : MethodName := ⟨RX11, "downNow", "()I"⟩
abbrev cX11_stamp : ByteArray := prog_1_method_26_code
def yX11_stamp : MethodName := ⟨RX11, "stamp", "(I)V"⟩
abbrev cX11_handOver : ByteArray := prog_1_method_27_code
def yX11_handOver : MethodName := ⟨RX11, "handOver", "(LOrderedTable$Message;)V"⟩
def RX12 : String := "OrderedTableModel"
def TX12 : u_T := fun k => match k with
  | 0 => ("OrderedTableModel", "thrown", "I", false)
  | 1 => ("OrderedTableModel", "n", "I", true)
  | 2 => ("OrderedTableModel", "f", "I", true)
  | 3 => ("OrderedTableModel", "requests", "I", false)
  | 4 => ("OrderedTableModel", "requestClient", "[I", true)
  | 5 => ("OrderedTableModel", "requestNumber", "[I", true)
  | 6 => ("OrderedTableModel", "requestKind", "[I", true)
  | 7 => ("OrderedTableModel", "requestKey", "[I", true)
  | 8 => ("OrderedTableModel", "requestWord", "[I", true)
  | 9 => ("OrderedTableModel", "up", "Z", false)
  | 10 => ("OrderedTableModel", "session", "I", false)
  | 11 => ("OrderedTableModel", "count", "I", false)
  | 12 => ("OrderedTableModel", "air", "I", false)
  | 13 => ("OrderedTableModel", "sent", "I", false)
  | 14 => ("OrderedTableModel", "lost", "I", false)
  | 15 => ("OrderedTableModel", "order", "[I", true)
  | 16 => ("OrderedTableModel", "free", "[I", true)
  | 17 => ("OrderedTableModel", "number", "[I", true)
  | 18 => ("OrderedTableModel", "kind", "[I", true)
  | 19 => ("OrderedTableModel", "from", "[I", true)
  | 20 => ("OrderedTableModel", "to", "[I", true)
  | 21 => ("OrderedTableModel", "viewL", "[I", true)
  | 22 => ("OrderedTableModel", "viewS", "[I", true)
  | 23 => ("OrderedTableModel", "told", "[I", true)
  | 24 => ("OrderedTableModel", "about", "[I", true)
  | 25 => ("OrderedTableModel", "reply", "[I", true)
  | 26 => ("OrderedTableModel", "lastL", "[I", true)
  | 27 => ("OrderedTableModel", "lastS", "[I", true)
  | 28 => ("OrderedTableModel", "bases", "[I", true)
  | 29 => ("OrderedTableModel", "lengths", "[I", true)
  | 30 => ("OrderedTableModel", "answers", "[Z", true)
  | 31 => ("OrderedTableModel", "logs", "[I", true)
  | 32 => ("OrderedTableModel", "down", "[Z", true)
  | 33 => ("OrderedTableModel", "rL", "[I", true)
  | 34 => ("OrderedTableModel", "rS", "[I", true)
  | 35 => ("OrderedTableModel", "status", "[I", true)
  | 36 => ("OrderedTableModel", "normalL", "[I", true)
  | 37 => ("OrderedTableModel", "normalS", "[I", true)
  | 38 => ("OrderedTableModel", "length", "[I", true)
  | 39 => ("OrderedTableModel", "base", "[I", true)
  | 40 => ("OrderedTableModel", "point", "[I", true)
  | 41 => ("OrderedTableModel", "synced", "[I", true)
  | 42 => ("OrderedTableModel", "log", "[I", true)
  | 43 => ("OrderedTableModel", "holds", "[I", true)
  | 44 => ("OrderedTableModel", "heldNumber", "[I", true)
  | 45 => ("OrderedTableModel", "heldRequest", "[I", true)
  | 46 => ("OrderedTableModel", "gapBits", "[I", true)
  | 47 => ("OrderedTableModel", "syncBits", "[I", true)
  | 48 => ("OrderedTableModel", "syncAt", "[I", true)
  | 49 => ("OrderedTableModel", "turnedBits", "[I", true)
  | 50 => ("OrderedTableModel", "turnedL", "[I", true)
  | 51 => ("OrderedTableModel", "turnedS", "[I", true)
  | 52 => ("OrderedTableModel", "turnedBase", "[I", true)
  | 53 => ("OrderedTableModel", "turnedLength", "[I", true)
  | 54 => ("OrderedTableModel", "turnedLog", "[I", true)
  | 55 => ("OrderedTableModel", "merged", "[I", true)
  | 56 => ("OrderedTableModel", "carried", "[I", true)
  | 57 => ("OrderedTableModel", "made", "[I", true)
  | 58 => ("OrderedTableModel", "latest", "[I", true)
  | 59 => ("OrderedTableModel", "state", "[I", true)
  | 60 => ("OrderedTableModel", "atSlot", "[I", true)
  | 61 => ("OrderedTableModel", "atL", "[I", true)
  | 62 => ("OrderedTableModel", "atS", "[I", true)
  | 63 => ("OrderedTableModel", "got", "[I", true)
  | 64 => ("OrderedTableModel", "tolds", "[I", true)
  | 65 => ("OrderedTableModel", "toldL", "[I", true)
  | 66 => ("OrderedTableModel", "toldS", "[I", true)
  | 67 => ("OrderedTableModel", "toldSlot", "[I", true)
  | 68 => ("OrderedTableModel", "toldBits", "[I", true)
  | 69 => ("OrderedTableModel", "toldAnswer", "[I", true)
  | 70 => ("OrderedTableModel", "accepted", "I", false)
  | 71 => ("OrderedTableModel", "factRequest", "[I", true)
  | 72 => ("OrderedTableModel", "factL", "[I", true)
  | 73 => ("OrderedTableModel", "factS", "[I", true)
  | 74 => ("OrderedTableModel", "factSlot", "[I", true)
  | 75 => ("OrderedTableModel", "factAnswer", "[I", true)
  | 76 => ("OrderedTableModel", "words", "[I", true)
  | 77 => ("OrderedTableModel", "done", "[I", true)
  | _ => ("OrderedTableModel", "answered", "[I", true)
def tyX12 : Nat → FieldType := fun k => match k with
  | 0 => .int
  | 1 => .int
  | 2 => .int
  | 3 => .int
  | 4 => .array .int
  | 5 => .array .int
  | 6 => .array .int
  | 7 => .array .int
  | 8 => .array .int
  | 9 => .boolean
  | 10 => .int
  | 11 => .int
  | 12 => .int
  | 13 => .int
  | 14 => .int
  | 15 => .array .int
  | 16 => .array .int
  | 17 => .array .int
  | 18 => .array .int
  | 19 => .array .int
  | 20 => .array .int
  | 21 => .array .int
  | 22 => .array .int
  | 23 => .array .int
  | 24 => .array .int
  | 25 => .array .int
  | 26 => .array .int
  | 27 => .array .int
  | 28 => .array .int
  | 29 => .array .int
  | 30 => .array .boolean
  | 31 => .array .int
  | 32 => .array .boolean
  | 33 => .array .int
  | 34 => .array .int
  | 35 => .array .int
  | 36 => .array .int
  | 37 => .array .int
  | 38 => .array .int
  | 39 => .array .int
  | 40 => .array .int
  | 41 => .array .int
  | 42 => .array .int
  | 43 => .array .int
  | 44 => .array .int
  | 45 => .array .int
  | 46 => .array .int
  | 47 => .array .int
  | 48 => .array .int
  | 49 => .array .int
  | 50 => .array .int
  | 51 => .array .int
  | 52 => .array .int
  | 53 => .array .int
  | 54 => .array .int
  | 55 => .array .int
  | 56 => .array .int
  | 57 => .array .int
  | 58 => .array .int
  | 59 => .array .int
  | 60 => .array .int
  | 61 => .array .int
  | 62 => .array .int
  | 63 => .array .int
  | 64 => .array .int
  | 65 => .array .int
  | 66 => .array .int
  | 67 => .array .int
  | 68 => .array .int
  | 69 => .array .int
  | 70 => .int
  | 71 => .array .int
  | 72 => .array .int
  | 73 => .array .int
  | 74 => .array .int
  | 75 => .array .int
  | 76 => .array .int
  | 77 => .array .int
  | _ => .array .int
abbrev wsX120 : List Cond := u_ws RX12 TX12 79
theorem nmX12 : ∀ a, a < 79 → ∀ b, b < 79 → a ≠ b → (TX12 a).2.1 ≠ (TX12 b).2.1 := by decide +kernel
theorem tyX12_ok : ∀ k, k < 79 → parseFieldDescriptor (TX12 k).2.2.1 = some (tyX12 k) := by decide +kernel
abbrev cX12_init : ByteArray := prog_14_method_1_code
def yX12_init : MethodName := ⟨RX12, "<init>", "(I)V"⟩
abbrev cX12_thrown : ByteArray := prog_14_method_2_code
def yX12_thrown : MethodName := ⟨RX12, "thrown", "()I"⟩
abbrev cX12_in : ByteArray := prog_14_method_3_code
def yX12_in : MethodName := ⟨RX12, "in", "(II)Z"⟩
abbrev cX12_ones : ByteArray := prog_14_method_4_code
def yX12_ones : MethodName := ⟨RX12, "ones", "(I)I"⟩
abbrev cX12_send : ByteArray := prog_14_method_5_code
def yX12_send : MethodName := ⟨RX12, "send", "(IIIIIII)I"⟩
abbrev cX12_taken : ByteArray := prog_14_method_6_code
def yX12_taken : MethodName := ⟨RX12, "taken", "(I)I"⟩
abbrev cX12_find : ByteArray := prog_14_method_7_code
def yX12_find : MethodName := ⟨RX12, "find", "(I)I"⟩
abbrev cX12_all : ByteArray := prog_14_method_8_code
def yX12_all : MethodName := ⟨RX12, "all", "(III)V"⟩
abbrev cX12_load : ByteArray := prog_14_method_9_code
def yX12_load : MethodName := ⟨RX12, "load", "(III)V"⟩
abbrev cX12_stamp : ByteArray := prog_14_method_10_code
def yX12_stamp : MethodName := ⟨RX12, "stamp", "(I)V"⟩
abbrev cX12_execute : ByteArray := prog_14_method_11_code
def yX12_execute : MethodName := ⟨RX12, "execute", "(II)V"⟩
abbrev cX12_leads : ByteArray := prog_14_method_12_code
def yX12_leads : MethodName := ⟨RX12, "leads", "(I)Z"⟩
abbrev cX12_leader : ByteArray := prog_14_method_13_code
def yX12_leader : MethodName := ⟨RX12, "leader", "(I)I"⟩
abbrev cX12_executed : ByteArray := prog_14_method_14_code
def yX12_executed : MethodName := ⟨RX12, "executed", "(I)I"⟩
abbrev cX12_held : ByteArray := prog_14_method_15_code
def yX12_held : MethodName := ⟨RX12, "held", "(II)I"⟩
abbrev cX12_hold : ByteArray := prog_14_method_16_code
def yX12_hold : MethodName := ⟨RX12, "hold", "(III)V"⟩
abbrev cX12_unhold : ByteArray := prog_14_method_17_code
def yX12_unhold : MethodName := ⟨RX12, "unhold", "(II)V"⟩
abbrev cX12_forget : ByteArray := prog_14_method_18_code
def yX12_forget : MethodName := ⟨RX12, "forget", "(I)V"⟩
abbrev cX12_append : ByteArray := prog_14_method_19_code
def yX12_append : MethodName := ⟨RX12, "append", "(II)V"⟩
abbrev cX12_answer : ByteArray := prog_14_method_20_code
def yX12_answer : MethodName := ⟨RX12, "answer", "(II)V"⟩
abbrev cX12_take : ByteArray := prog_14_method_21_code
def yX12_take : MethodName := ⟨RX12, "take", "(I)V"⟩
abbrev cX12_tellTurned : ByteArray := prog_14_method_22_code
def yX12_tellTurned : MethodName := ⟨RX12, "tellTurned", "(I)V"⟩
abbrev cX12_turn : ByteArray := prog_14_method_23_code
def yX12_turn : MethodName := ⟨RX12, "turn", "(III)V"⟩
abbrev cX12_normalOf : ByteArray := prog_14_method_24_code
def yX12_normalOf : MethodName := ⟨RX12, "normalOf", "(IIZ)I"⟩
abbrev cX12_lengthOf : ByteArray := prog_14_method_25_code
def yX12_lengthOf : MethodName := ⟨RX12, "lengthOf", "(II)I"⟩
abbrev cX12_entryOf : ByteArray := prog_14_method_26_code
def yX12_entryOf : MethodName := ⟨RX12, "entryOf", "(III)I"⟩
abbrev cX12_isIn : ByteArray := prog_14_method_27_code
def yX12_isIn : MethodName := ⟨RX12, "isIn", "(II)Z"⟩
abbrev cX12_mergedAt : ByteArray := prog_14_method_28_code
def yX12_mergedAt : MethodName := ⟨RX12, "mergedAt", "(IIII)I"⟩
abbrev cX12_merge : ByteArray := prog_14_method_29_code
def yX12_merge : MethodName := ⟨RX12, "merge", "(I)V"⟩
abbrev cX12_settle : ByteArray := prog_14_method_30_code
def yX12_settle : MethodName := ⟨RX12, "settle", "(I)V"⟩
abbrev cX12_isBehind : ByteArray := prog_14_method_31_code
def yX12_isBehind : MethodName := ⟨RX12, "isBehind", "(IIII)Z"⟩
abbrev cX12_stamped : ByteArray := prog_14_method_32_code
def yX12_stamped : MethodName := ⟨RX12, "stamped", "(IIII)V"⟩
abbrev cX12_lookup : ByteArray := prog_14_method_33_code
def yX12_lookup : MethodName := ⟨RX12, "lookup", "(III)V"⟩
abbrev cX12_gapCommit : ByteArray := prog_14_method_34_code
def yX12_gapCommit : MethodName := ⟨RX12, "gapCommit", "(III)V"⟩
abbrev cX12_gapReply : ByteArray := prog_14_method_35_code
def yX12_gapReply : MethodName := ⟨RX12, "gapReply", "(III)V"⟩
abbrev cX12_sync : ByteArray := prog_14_method_36_code
def yX12_sync : MethodName := ⟨RX12, "sync", "(II)V"⟩
abbrev cX12_syncReply : ByteArray := prog_14_method_37_code
def yX12_syncReply : MethodName := ⟨RX12, "syncReply", "(III)V"⟩
abbrev cX12_follow : ByteArray := prog_14_method_38_code
def yX12_follow : MethodName := ⟨RX12, "follow", "(III)V"⟩
abbrev cX12_turned : ByteArray := prog_14_method_39_code
def yX12_turned : MethodName := ⟨RX12, "turned", "(IIIIIIII)V"⟩
abbrev cX12_start : ByteArray := prog_14_method_40_code
def yX12_start : MethodName := ⟨RX12, "start", "(IIIII)V"⟩
abbrev cX12_forgetFirst : ByteArray := prog_14_method_41_code
def yX12_forgetFirst : MethodName := ⟨RX12, "forgetFirst", "(I)I"⟩
abbrev cX12_replied : ByteArray := prog_14_method_42_code
def yX12_replied : MethodName := ⟨RX12, "replied", "(IIIIIIZI)V"⟩
abbrev cX12_inView : ByteArray := prog_14_method_43_code
def yX12_inView : MethodName := ⟨RX12, "inView", "(IIIII)V"⟩
abbrev cX12_arrive : ByteArray := prog_14_method_44_code
def yX12_arrive : MethodName := ⟨RX12, "arrive", "(I)V"⟩
abbrev cX12_request : ByteArray := prog_14_method_45_code
def yX12_request : MethodName := ⟨RX12, "request", "(IIII)I"⟩
abbrev cX12_again : ByteArray := prog_14_method_46_code
def yX12_again : MethodName := ⟨RX12, "again", "(I)V"⟩
abbrev cX12_deliver : ByteArray := prog_14_method_47_code
def yX12_deliver : MethodName := ⟨RX12, "deliver", "(I)V"⟩
abbrev cX12_lose : ByteArray := prog_14_method_48_code
def yX12_lose : MethodName := ⟨RX12, "lose", "(I)V"⟩
abbrev cX12_flow : ByteArray := prog_14_method_49_code
def yX12_flow : MethodName := ⟨RX12, "flow", "(I)I"⟩
abbrev cX12_down : ByteArray := prog_14_method_50_code
def yX12_down : MethodName := ⟨RX12, "down", "(I)V"⟩
abbrev cX12_up : ByteArray := prog_14_method_51_code
def yX12_up : MethodName := ⟨RX12, "up", "(I)V"⟩
abbrev cX12_may : ByteArray := prog_14_method_52_code
def yX12_may : MethodName := ⟨RX12, "may", "(I)Z"⟩
abbrev cX12_suspect : ByteArray := prog_14_method_53_code
def yX12_suspect : MethodName := ⟨RX12, "suspect", "(I)V"⟩
abbrev cX12_nudge : ByteArray := prog_14_method_54_code
def yX12_nudge : MethodName := ⟨RX12, "nudge", "(I)I"⟩
abbrev cX12_sync_ : ByteArray := prog_14_method_55_code
def yX12_sync_ : MethodName := ⟨RX12, "sync", "(I)V"⟩
abbrev cX12_fail : ByteArray := prog_14_method_56_code
def yX12_fail : MethodName := ⟨RX12, "fail", "()Z"⟩
abbrev cX12_install : ByteArray := prog_14_method_57_code
def yX12_install : MethodName := ⟨RX12, "install", "()I"⟩
abbrev cX12_replica : ByteArray := prog_14_method_58_code
def yX12_replica : MethodName := ⟨RX12, "replica", "(II)I"⟩
abbrev cX12_entry : ByteArray := prog_14_method_59_code
def yX12_entry : MethodName := ⟨RX12, "entry", "(III)I"⟩
abbrev cX12_word : ByteArray := prog_14_method_60_code
def yX12_word : MethodName := ⟨RX12, "word", "(II)I"⟩
abbrev cX12_client : ByteArray := prog_14_method_61_code
def yX12_client : MethodName := ⟨RX12, "client", "(II)I"⟩
abbrev cX12_answer_ : ByteArray := prog_14_method_62_code
def yX12_answer_ : MethodName := ⟨RX12, "answer", "(I)I"⟩
abbrev cX12_about : ByteArray := prog_14_method_63_code
def yX12_about : MethodName := ⟨RX12, "about", "(I)I"⟩
abbrev cX12_message : ByteArray := prog_14_method_64_code
def yX12_message : MethodName := ⟨RX12, "message", "(II)I"⟩
abbrev cX12_has : ByteArray := prog_14_method_65_code
def yX12_has : MethodName := ⟨RX12, "has", "(II)Z"⟩
abbrev cX12_broken : ByteArray := prog_14_method_66_code
def yX12_broken : MethodName := ⟨RX12, "broken", "()I"⟩
def RJx145de : String := "java/io/Serializable"
def TJx145de : u_T := fun k => match k with
  | _ => ("", "", "", false)
def tyJx145de : Nat → FieldType := fun k => match k with
  | _ => .int
theorem nmJx145de : ∀ a, a < 0 → ∀ b, b < 0 → a ≠ b → (TJx145de a).2.1 ≠ (TJx145de b).2.1 := by decide +kernel
theorem tyJx145de_ok : ∀ k, k < 0 → parseFieldDescriptor (TJx145de k).2.2.1 = some (tyJx145de k) := by decide +kernel
def RJ6 : String := "java/lang/Integer"
def TJ6 : u_T := fun k => match k with
  | _ => ("", "", "", false)
def tyJ6 : Nat → FieldType := fun k => match k with
  | _ => .int
theorem nmJ6 : ∀ a, a < 0 → ∀ b, b < 0 → a ≠ b → (TJ6 a).2.1 ≠ (TJ6 b).2.1 := by decide +kernel
theorem tyJ6_ok : ∀ k, k < 0 → parseFieldDescriptor (TJ6 k).2.2.1 = some (tyJ6 k) := by decide +kernel
abbrev cJ6_bitCount_0f7a4 : ByteArray := prog_19_method_49_code
def yJ6_bitCount_0f7a4 : MethodName := ⟨RJ6, "bitCount", "(I)I"⟩
def RJ9 : String := "java/lang/Math"
def TJ9 : u_T := fun k => match k with
  | _ => ("", "", "", false)
def tyJ9 : Nat → FieldType := fun k => match k with
  | _ => .int
theorem nmJ9 : ∀ a, a < 0 → ∀ b, b < 0 → a ≠ b → (TJ9 a).2.1 ≠ (TJ9 b).2.1 := by decide +kernel
theorem tyJ9_ok : ∀ k, k < 0 → parseFieldDescriptor (TJ9 k).2.2.1 = some (tyJ9 k) := by decide +kernel
abbrev cJ9_floorMod_7cf53 : ByteArray := prog_20_method_50_code
def yJ9_floorMod_7cf53 : MethodName := ⟨RJ9, "floorMod", "(II)I"⟩
abbrev cJ9_max_7cf53 : ByteArray := prog_20_method_65_code
def yJ9_max_7cf53 : MethodName := ⟨RJ9, "max", "(II)I"⟩
abbrev cJ9_min_7cf53 : ByteArray := prog_20_method_69_code
def yJ9_min_7cf53 : MethodName := ⟨RJ9, "min", "(II)I"⟩
def RJ0 : String := "java/lang/String"
def TJ0 : u_T := fun k => match k with
  | _ => ("", "", "", false)
def tyJ0 : Nat → FieldType := fun k => match k with
  | _ => .int
theorem nmJ0 : ∀ a, a < 0 → ∀ b, b < 0 → a ≠ b → (TJ0 a).2.1 ≠ (TJ0 b).2.1 := by decide +kernel
theorem tyJ0_ok : ∀ k, k < 0 → parseFieldDescriptor (TJ0 k).2.2.1 = some (tyJ0 k) := by decide +kernel
def RJ10 : String := "java/lang/System"
def TJ10 : u_T := fun k => match k with
  | _ => ("", "", "", false)
def tyJ10 : Nat → FieldType := fun k => match k with
  | _ => .int
theorem nmJ10 : ∀ a, a < 0 → ∀ b, b < 0 → a ≠ b → (TJ10 a).2.1 ≠ (TJ10 b).2.1 := by decide +kernel
theorem tyJ10_ok : ∀ k, k < 0 → parseFieldDescriptor (TJ10 k).2.2.1 = some (tyJ10 k) := by decide +kernel
def RJ7 : String := "java/util/Arrays"
def TJ7 : u_T := fun k => match k with
  | _ => ("", "", "", false)
def tyJ7 : Nat → FieldType := fun k => match k with
  | _ => .int
theorem nmJ7 : ∀ a, a < 0 → ∀ b, b < 0 → a ≠ b → (TJ7 a).2.1 ≠ (TJ7 b).2.1 := by decide +kernel
theorem tyJ7_ok : ∀ k, k < 0 → parseFieldDescriptor (TJ7 k).2.2.1 = some (tyJ7 k) := by decide +kernel
abbrev cJ7_fill_53178 : ByteArray := prog_25_method_103_code
def yJ7_fill_53178 : MethodName := ⟨RJ7, "fill", "([II)V"⟩
def RL : String := "OrderedTableLaw"
abbrev cL_cell : ByteArray := method_2_code
def yL_cell : MethodName := ⟨RL, "cell", "([II)I"⟩
abbrev cL_request : ByteArray := method_3_code
def yL_request : MethodName := ⟨RL, "request", "(LOrderedTable;IIII[J)I"⟩
abbrev cL_again : ByteArray := method_4_code
def yL_again : MethodName := ⟨RL, "again", "(LOrderedTable;I)I"⟩
abbrev cL_deliver : ByteArray := method_5_code
def yL_deliver : MethodName := ⟨RL, "deliver", "(LOrderedTable;I)I"⟩
abbrev cL_lose : ByteArray := method_6_code
def yL_lose : MethodName := ⟨RL, "lose", "(LOrderedTable;I)I"⟩
abbrev cL_flow : ByteArray := method_7_code
def yL_flow : MethodName := ⟨RL, "flow", "(LOrderedTable;I[J)I"⟩
abbrev cL_down : ByteArray := method_8_code
def yL_down : MethodName := ⟨RL, "down", "(LOrderedTable;I)I"⟩
abbrev cL_up : ByteArray := method_9_code
def yL_up : MethodName := ⟨RL, "up", "(LOrderedTable;I)I"⟩
abbrev cL_suspect : ByteArray := method_10_code
def yL_suspect : MethodName := ⟨RL, "suspect", "(LOrderedTable;I)I"⟩
abbrev cL_nudge : ByteArray := method_11_code
def yL_nudge : MethodName := ⟨RL, "nudge", "(LOrderedTable;I[J)I"⟩
abbrev cL_sync : ByteArray := method_12_code
def yL_sync : MethodName := ⟨RL, "sync", "(LOrderedTable;I)I"⟩
abbrev cL_law : ByteArray := code
def yL_law : MethodName := ⟨RL, "law", "([I)Z"⟩
abbrev vwCl : List vw_C := [(RX0, TX0, 8), (RX1, TX1, 6), (RX2, TX2, 13), (RX3, TX3, 3), (RX4, TX4, 2), (RX5, TX5, 12), (RX6, TX6, 15), (RX7, TX7, 6), (RX8, TX8, 7), (RX9, TX9, 2), (RX10, TX10, 5), (RX11, TX11, 10), (RX12, TX12, 79)]
end
section
theorem dX0_init_0 : decode cX0_init 0 = .ok (.aload_n 0, 1) := by decide +kernel
theorem dX0_init_1 : decode cX0_init 1 = .ok (.invokespecial 3, 3) := by decide +kernel
theorem dX0_init_4 : decode cX0_init 4 = .ok (.aload_n 0, 1) := by decide +kernel
theorem dX0_init_5 : decode cX0_init 5 = .ok (.sipush 200, 3) := by decide +kernel
theorem dX0_init_8 : decode cX0_init 8 = .ok (.newarray .int, 2) := by decide +kernel
theorem dX0_init_10 : decode cX0_init 10 = .ok (.putfield 9, 3) := by decide +kernel
theorem dX0_init_13 : decode cX0_init 13 = .ok (.aload_n 0, 1) := by decide +kernel
theorem dX0_init_14 : decode cX0_init 14 = .ok (.sipush 200, 3) := by decide +kernel
theorem dX0_init_17 : decode cX0_init 17 = .ok (.anewarray 15, 3) := by decide +kernel
theorem dX0_init_20 : decode cX0_init 20 = .ok (.putfield 17, 3) := by decide +kernel
theorem dX0_init_23 : decode cX0_init 23 = .ok (.aload_n 0, 1) := by decide +kernel
theorem dX0_init_24 : decode cX0_init 24 = .ok (.sipush 200, 3) := by decide +kernel
theorem dX0_init_27 : decode cX0_init 27 = .ok (.newarray .int, 2) := by decide +kernel
theorem dX0_init_29 : decode cX0_init 29 = .ok (.putfield 21, 3) := by decide +kernel
theorem dX0_init_32 : decode cX0_init 32 = .ok (.aload_n 0, 1) := by decide +kernel
theorem dX0_init_33 : decode cX0_init 33 = .ok (.sipush 200, 3) := by decide +kernel
theorem dX0_init_36 : decode cX0_init 36 = .ok (.newarray .int, 2) := by decide +kernel
theorem dX0_init_38 : decode cX0_init 38 = .ok (.putfield 24, 3) := by decide +kernel
theorem dX0_init_41 : decode cX0_init 41 = .ok (.aload_n 0, 1) := by decide +kernel
theorem dX0_init_42 : decode cX0_init 42 = .ok (.sipush 200, 3) := by decide +kernel
theorem dX0_init_45 : decode cX0_init 45 = .ok (.newarray .int, 2) := by decide +kernel
theorem dX0_init_47 : decode cX0_init 47 = .ok (.putfield 27, 3) := by decide +kernel
theorem dX0_init_50 : decode cX0_init 50 = .ok (.return_, 1) := by decide +kernel
theorem dX0_add_0 : decode cX0_add 0 = .ok (.aload_n 0, 1) := by decide +kernel
theorem dX0_add_1 : decode cX0_add 1 = .ok (.getfield 9, 3) := by decide +kernel
theorem dX0_add_4 : decode cX0_add 4 = .ok (.aload_n 0, 1) := by decide +kernel
theorem dX0_add_5 : decode cX0_add 5 = .ok (.getfield 30, 3) := by decide +kernel
theorem dX0_add_8 : decode cX0_add 8 = .ok (.iload_n 1, 1) := by decide +kernel
theorem dX0_add_9 : decode cX0_add 9 = .ok (.iastore, 1) := by decide +kernel
theorem dX0_add_10 : decode cX0_add 10 = .ok (.aload_n 0, 1) := by decide +kernel
theorem dX0_add_11 : decode cX0_add 11 = .ok (.getfield 17, 3) := by decide +kernel
theorem dX0_add_14 : decode cX0_add 14 = .ok (.aload_n 0, 1) := by decide +kernel
theorem dX0_add_15 : decode cX0_add 15 = .ok (.getfield 30, 3) := by decide +kernel
theorem dX0_add_18 : decode cX0_add 18 = .ok (.aload_n 2, 1) := by decide +kernel
theorem dX0_add_19 : decode cX0_add 19 = .ok (.aastore, 1) := by decide +kernel
theorem dX0_add_20 : decode cX0_add 20 = .ok (.aload_n 0, 1) := by decide +kernel
theorem dX0_add_21 : decode cX0_add 21 = .ok (.getfield 21, 3) := by decide +kernel
theorem dX0_add_24 : decode cX0_add 24 = .ok (.aload_n 0, 1) := by decide +kernel
theorem dX0_add_25 : decode cX0_add 25 = .ok (.getfield 30, 3) := by decide +kernel
theorem dX0_add_28 : decode cX0_add 28 = .ok (.iload_n 3, 1) := by decide +kernel
theorem dX0_add_29 : decode cX0_add 29 = .ok (.iastore, 1) := by decide +kernel
theorem dX0_add_30 : decode cX0_add 30 = .ok (.aload_n 0, 1) := by decide +kernel
theorem dX0_add_31 : decode cX0_add 31 = .ok (.getfield 24, 3) := by decide +kernel
theorem dX0_add_34 : decode cX0_add 34 = .ok (.aload_n 0, 1) := by decide +kernel
theorem dX0_add_35 : decode cX0_add 35 = .ok (.getfield 30, 3) := by decide +kernel
theorem dX0_add_38 : decode cX0_add 38 = .ok (.iload 4, 2) := by decide +kernel
theorem dX0_add_40 : decode cX0_add 40 = .ok (.iastore, 1) := by decide +kernel
theorem dX0_add_41 : decode cX0_add 41 = .ok (.aload_n 0, 1) := by decide +kernel
theorem dX0_add_42 : decode cX0_add 42 = .ok (.aload_n 0, 1) := by decide +kernel
theorem dX0_add_43 : decode cX0_add 43 = .ok (.getfield 30, 3) := by decide +kernel
theorem dX0_add_46 : decode cX0_add 46 = .ok (.iconst 1, 1) := by decide +kernel
theorem dX0_add_47 : decode cX0_add 47 = .ok (.iadd, 1) := by decide +kernel
theorem dX0_add_48 : decode cX0_add 48 = .ok (.sipush 200, 3) := by decide +kernel
theorem dX0_add_51 : decode cX0_add 51 = .ok (.irem, 1) := by decide +kernel
theorem dX0_add_52 : decode cX0_add 52 = .ok (.putfield 30, 3) := by decide +kernel
theorem dX0_add_55 : decode cX0_add 55 = .ok (.aload_n 0, 1) := by decide +kernel
theorem dX0_add_56 : decode cX0_add 56 = .ok (.aload_n 0, 1) := by decide +kernel
theorem dX0_add_57 : decode cX0_add 57 = .ok (.getfield 34, 3) := by decide +kernel
theorem dX0_add_60 : decode cX0_add 60 = .ok (.iconst 1, 1) := by decide +kernel
theorem dX0_add_61 : decode cX0_add 61 = .ok (.iadd, 1) := by decide +kernel
theorem dX0_add_62 : decode cX0_add 62 = .ok (.sipush 200, 3) := by decide +kernel
theorem dX0_add_65 : decode cX0_add 65 = .ok (.invokestatic 37, 3) := by decide +kernel
theorem dX0_add_68 : decode cX0_add 68 = .ok (.putfield 34, 3) := by decide +kernel
theorem dX0_add_71 : decode cX0_add 71 = .ok (.aload_n 0, 1) := by decide +kernel
theorem dX0_add_72 : decode cX0_add 72 = .ok (.dup, 1) := by decide +kernel
theorem dX0_add_73 : decode cX0_add 73 = .ok (.getfield 43, 3) := by decide +kernel
theorem dX0_add_76 : decode cX0_add 76 = .ok (.iconst 1, 1) := by decide +kernel
theorem dX0_add_77 : decode cX0_add 77 = .ok (.iadd, 1) := by decide +kernel
theorem dX0_add_78 : decode cX0_add 78 = .ok (.putfield 43, 3) := by decide +kernel
theorem dX0_add_81 : decode cX0_add 81 = .ok (.return_, 1) := by decide +kernel
theorem dX0_unmark_0 : decode cX0_unmark 0 = .ok (.aload_n 0, 1) := by decide +kernel
theorem dX0_unmark_1 : decode cX0_unmark 1 = .ok (.getfield 27, 3) := by decide +kernel
theorem dX0_unmark_4 : decode cX0_unmark 4 = .ok (.iconst 0, 1) := by decide +kernel
theorem dX0_unmark_5 : decode cX0_unmark 5 = .ok (.invokestatic 46, 3) := by decide +kernel
theorem dX0_unmark_8 : decode cX0_unmark 8 = .ok (.return_, 1) := by decide +kernel
theorem dX0_markNotHeldTo_0 : decode cX0_markNotHeldTo 0 = .ok (.iconst 0, 1) := by decide +kernel
theorem dX0_markNotHeldTo_1 : decode cX0_markNotHeldTo 1 = .ok (.istore_n 3, 1) := by decide +kernel
theorem dX0_markNotHeldTo_2 : decode cX0_markNotHeldTo 2 = .ok (.iload_n 3, 1) := by decide +kernel
theorem dX0_markNotHeldTo_3 : decode cX0_markNotHeldTo 3 = .ok (.aload_n 0, 1) := by decide +kernel
theorem dX0_markNotHeldTo_4 : decode cX0_markNotHeldTo 4 = .ok (.getfield 34, 3) := by decide +kernel
theorem dX0_markNotHeldTo_7 : decode cX0_markNotHeldTo 7 = .ok (.if_icmp .ge 117, 3) := by decide +kernel
theorem dX0_markNotHeldTo_10 : decode cX0_markNotHeldTo 10 = .ok (.aload_n 0, 1) := by decide +kernel
theorem dX0_markNotHeldTo_11 : decode cX0_markNotHeldTo 11 = .ok (.getfield 17, 3) := by decide +kernel
theorem dX0_markNotHeldTo_14 : decode cX0_markNotHeldTo 14 = .ok (.iload_n 3, 1) := by decide +kernel
theorem dX0_markNotHeldTo_15 : decode cX0_markNotHeldTo 15 = .ok (.aaload, 1) := by decide +kernel
theorem dX0_markNotHeldTo_16 : decode cX0_markNotHeldTo 16 = .ok (.aload_n 1, 1) := by decide +kernel
theorem dX0_markNotHeldTo_17 : decode cX0_markNotHeldTo 17 = .ok (.getfield 52, 3) := by decide +kernel
theorem dX0_markNotHeldTo_20 : decode cX0_markNotHeldTo 20 = .ok (.invokevirtual 58, 3) := by decide +kernel
theorem dX0_markNotHeldTo_23 : decode cX0_markNotHeldTo 23 = .ok (.ifCond .ne 22, 3) := by decide +kernel
theorem dX0_markNotHeldTo_26 : decode cX0_markNotHeldTo 26 = .ok (.aload_n 0, 1) := by decide +kernel
theorem dX0_markNotHeldTo_27 : decode cX0_markNotHeldTo 27 = .ok (.getfield 17, 3) := by decide +kernel
theorem dX0_markNotHeldTo_30 : decode cX0_markNotHeldTo 30 = .ok (.iload_n 3, 1) := by decide +kernel
theorem dX0_markNotHeldTo_31 : decode cX0_markNotHeldTo 31 = .ok (.aaload, 1) := by decide +kernel
theorem dX0_markNotHeldTo_32 : decode cX0_markNotHeldTo 32 = .ok (.aload_n 1, 1) := by decide +kernel
theorem dX0_markNotHeldTo_33 : decode cX0_markNotHeldTo 33 = .ok (.getfield 52, 3) := by decide +kernel
theorem dX0_markNotHeldTo_36 : decode cX0_markNotHeldTo 36 = .ok (.invokevirtual 62, 3) := by decide +kernel
theorem dX0_markNotHeldTo_39 : decode cX0_markNotHeldTo 39 = .ok (.ifCond .ne 6, 3) := by decide +kernel
theorem dX0_markNotHeldTo_42 : decode cX0_markNotHeldTo 42 = .ok (.goto 76, 3) := by decide +kernel
theorem dX0_markNotHeldTo_45 : decode cX0_markNotHeldTo 45 = .ok (.aload_n 2, 1) := by decide +kernel
theorem dX0_markNotHeldTo_46 : decode cX0_markNotHeldTo 46 = .ok (.aload_n 0, 1) := by decide +kernel
theorem dX0_markNotHeldTo_47 : decode cX0_markNotHeldTo 47 = .ok (.getfield 9, 3) := by decide +kernel
theorem dX0_markNotHeldTo_50 : decode cX0_markNotHeldTo 50 = .ok (.iload_n 3, 1) := by decide +kernel
theorem dX0_markNotHeldTo_51 : decode cX0_markNotHeldTo 51 = .ok (.iaload, 1) := by decide +kernel
theorem dX0_markNotHeldTo_52 : decode cX0_markNotHeldTo 52 = .ok (.invokevirtual 65, 3) := by decide +kernel
theorem dX0_markNotHeldTo_55 : decode cX0_markNotHeldTo 55 = .ok (.ifCond .eq 26, 3) := by decide +kernel
theorem dX0_markNotHeldTo_58 : decode cX0_markNotHeldTo 58 = .ok (.aload_n 2, 1) := by decide +kernel
theorem dX0_markNotHeldTo_59 : decode cX0_markNotHeldTo 59 = .ok (.aload_n 0, 1) := by decide +kernel
theorem dX0_markNotHeldTo_60 : decode cX0_markNotHeldTo 60 = .ok (.getfield 9, 3) := by decide +kernel
theorem dX0_markNotHeldTo_63 : decode cX0_markNotHeldTo 63 = .ok (.iload_n 3, 1) := by decide +kernel
theorem dX0_markNotHeldTo_64 : decode cX0_markNotHeldTo 64 = .ok (.iaload, 1) := by decide +kernel
theorem dX0_markNotHeldTo_65 : decode cX0_markNotHeldTo 65 = .ok (.invokevirtual 71, 3) := by decide +kernel
theorem dX0_markNotHeldTo_68 : decode cX0_markNotHeldTo 68 = .ok (.aload_n 0, 1) := by decide +kernel
theorem dX0_markNotHeldTo_69 : decode cX0_markNotHeldTo 69 = .ok (.getfield 24, 3) := by decide +kernel
theorem dX0_markNotHeldTo_72 : decode cX0_markNotHeldTo 72 = .ok (.iload_n 3, 1) := by decide +kernel
theorem dX0_markNotHeldTo_73 : decode cX0_markNotHeldTo 73 = .ok (.iaload, 1) := by decide +kernel
theorem dX0_markNotHeldTo_74 : decode cX0_markNotHeldTo 74 = .ok (.if_icmp .eq 7, 3) := by decide +kernel
theorem dX0_markNotHeldTo_77 : decode cX0_markNotHeldTo 77 = .ok (.iconst 1, 1) := by decide +kernel
theorem dX0_markNotHeldTo_78 : decode cX0_markNotHeldTo 78 = .ok (.goto 4, 3) := by decide +kernel
theorem dX0_markNotHeldTo_81 : decode cX0_markNotHeldTo 81 = .ok (.iconst 0, 1) := by decide +kernel
theorem dX0_markNotHeldTo_82 : decode cX0_markNotHeldTo 82 = .ok (.istore 4, 2) := by decide +kernel
theorem dX0_markNotHeldTo_84 : decode cX0_markNotHeldTo 84 = .ok (.aload_n 1, 1) := by decide +kernel
theorem dX0_markNotHeldTo_85 : decode cX0_markNotHeldTo 85 = .ok (.getfield 75, 3) := by decide +kernel
theorem dX0_markNotHeldTo_88 : decode cX0_markNotHeldTo 88 = .ok (.aload_n 0, 1) := by decide +kernel
theorem dX0_markNotHeldTo_89 : decode cX0_markNotHeldTo 89 = .ok (.getfield 21, 3) := by decide +kernel
theorem dX0_markNotHeldTo_92 : decode cX0_markNotHeldTo 92 = .ok (.iload_n 3, 1) := by decide +kernel
theorem dX0_markNotHeldTo_93 : decode cX0_markNotHeldTo 93 = .ok (.iaload, 1) := by decide +kernel
theorem dX0_markNotHeldTo_94 : decode cX0_markNotHeldTo 94 = .ok (.invokevirtual 79, 3) := by decide +kernel
theorem dX0_markNotHeldTo_97 : decode cX0_markNotHeldTo 97 = .ok (.aload_n 0, 1) := by decide +kernel
theorem dX0_markNotHeldTo_98 : decode cX0_markNotHeldTo 98 = .ok (.getfield 9, 3) := by decide +kernel
theorem dX0_markNotHeldTo_101 : decode cX0_markNotHeldTo 101 = .ok (.iload_n 3, 1) := by decide +kernel
theorem dX0_markNotHeldTo_102 : decode cX0_markNotHeldTo 102 = .ok (.iaload, 1) := by decide +kernel
theorem dX0_markNotHeldTo_103 : decode cX0_markNotHeldTo 103 = .ok (.if_icmp .ne 8, 3) := by decide +kernel
theorem dX0_markNotHeldTo_106 : decode cX0_markNotHeldTo 106 = .ok (.iload 4, 2) := by decide +kernel
theorem dX0_markNotHeldTo_108 : decode cX0_markNotHeldTo 108 = .ok (.ifCond .eq 10, 3) := by decide +kernel
theorem dX0_markNotHeldTo_111 : decode cX0_markNotHeldTo 111 = .ok (.aload_n 0, 1) := by decide +kernel
theorem dX0_markNotHeldTo_112 : decode cX0_markNotHeldTo 112 = .ok (.getfield 27, 3) := by decide +kernel
theorem dX0_markNotHeldTo_115 : decode cX0_markNotHeldTo 115 = .ok (.iload_n 3, 1) := by decide +kernel
theorem dX0_markNotHeldTo_116 : decode cX0_markNotHeldTo 116 = .ok (.iconst 1, 1) := by decide +kernel
theorem dX0_markNotHeldTo_117 : decode cX0_markNotHeldTo 117 = .ok (.iastore, 1) := by decide +kernel
theorem dX0_markNotHeldTo_118 : decode cX0_markNotHeldTo 118 = .ok (.iinc 3 1, 3) := by decide +kernel
theorem dX0_markNotHeldTo_121 : decode cX0_markNotHeldTo 121 = .ok (.goto (-119), 3) := by decide +kernel
theorem dX0_markNotHeldTo_124 : decode cX0_markNotHeldTo 124 = .ok (.return_, 1) := by decide +kernel
theorem dX0_marked_0 : decode cX0_marked 0 = .ok (.iconst 0, 1) := by decide +kernel
theorem dX0_marked_1 : decode cX0_marked 1 = .ok (.istore_n 1, 1) := by decide +kernel
theorem dX0_marked_2 : decode cX0_marked 2 = .ok (.aload_n 0, 1) := by decide +kernel
theorem dX0_marked_3 : decode cX0_marked 3 = .ok (.getfield 27, 3) := by decide +kernel
theorem dX0_marked_6 : decode cX0_marked 6 = .ok (.astore_n 2, 1) := by decide +kernel
theorem dX0_marked_7 : decode cX0_marked 7 = .ok (.aload_n 2, 1) := by decide +kernel
theorem dX0_marked_8 : decode cX0_marked 8 = .ok (.arraylength, 1) := by decide +kernel
theorem dX0_marked_9 : decode cX0_marked 9 = .ok (.istore_n 3, 1) := by decide +kernel
theorem dX0_marked_10 : decode cX0_marked 10 = .ok (.iconst 0, 1) := by decide +kernel
theorem dX0_marked_11 : decode cX0_marked 11 = .ok (.istore 4, 2) := by decide +kernel
theorem dX0_marked_13 : decode cX0_marked 13 = .ok (.iload 4, 2) := by decide +kernel
theorem dX0_marked_15 : decode cX0_marked 15 = .ok (.iload_n 3, 1) := by decide +kernel
theorem dX0_marked_16 : decode cX0_marked 16 = .ok (.if_icmp .ge 20, 3) := by decide +kernel
theorem dX0_marked_19 : decode cX0_marked 19 = .ok (.aload_n 2, 1) := by decide +kernel
theorem dX0_marked_20 : decode cX0_marked 20 = .ok (.iload 4, 2) := by decide +kernel
theorem dX0_marked_22 : decode cX0_marked 22 = .ok (.iaload, 1) := by decide +kernel
theorem dX0_marked_23 : decode cX0_marked 23 = .ok (.istore 5, 2) := by decide +kernel
theorem dX0_marked_25 : decode cX0_marked 25 = .ok (.iload_n 1, 1) := by decide +kernel
theorem dX0_marked_26 : decode cX0_marked 26 = .ok (.iload 5, 2) := by decide +kernel
theorem dX0_marked_28 : decode cX0_marked 28 = .ok (.iadd, 1) := by decide +kernel
theorem dX0_marked_29 : decode cX0_marked 29 = .ok (.istore_n 1, 1) := by decide +kernel
theorem dX0_marked_30 : decode cX0_marked 30 = .ok (.iinc 4 1, 3) := by decide +kernel
theorem dX0_marked_33 : decode cX0_marked 33 = .ok (.goto (-20), 3) := by decide +kernel
theorem dX0_marked_36 : decode cX0_marked 36 = .ok (.iload_n 1, 1) := by decide +kernel
theorem dX0_marked_37 : decode cX0_marked 37 = .ok (.ireturn, 1) := by decide +kernel
theorem dX1_init_0 : decode cX1_init 0 = .ok (.aload_n 0, 1) := by decide +kernel
theorem dX1_init_1 : decode cX1_init 1 = .ok (.invokespecial 3, 3) := by decide +kernel
theorem dX1_init_4 : decode cX1_init 4 = .ok (.aload_n 0, 1) := by decide +kernel
theorem dX1_init_5 : decode cX1_init 5 = .ok (.sipush 200, 3) := by decide +kernel
theorem dX1_init_8 : decode cX1_init 8 = .ok (.anewarray 9, 3) := by decide +kernel
theorem dX1_init_11 : decode cX1_init 11 = .ok (.putfield 11, 3) := by decide +kernel
theorem dX1_init_14 : decode cX1_init 14 = .ok (.aload_n 0, 1) := by decide +kernel
theorem dX1_init_15 : decode cX1_init 15 = .ok (.new 9, 3) := by decide +kernel
theorem dX1_init_18 : decode cX1_init 18 = .ok (.dup, 1) := by decide +kernel
theorem dX1_init_19 : decode cX1_init 19 = .ok (.invokespecial 17, 3) := by decide +kernel
theorem dX1_init_22 : decode cX1_init 22 = .ok (.putfield 18, 3) := by decide +kernel
theorem dX1_init_25 : decode cX1_init 25 = .ok (.aload_n 0, 1) := by decide +kernel
theorem dX1_init_26 : decode cX1_init 26 = .ok (.new 9, 3) := by decide +kernel
theorem dX1_init_29 : decode cX1_init 29 = .ok (.dup, 1) := by decide +kernel
theorem dX1_init_30 : decode cX1_init 30 = .ok (.invokespecial 17, 3) := by decide +kernel
theorem dX1_init_33 : decode cX1_init 33 = .ok (.putfield 22, 3) := by decide +kernel
theorem dX1_init_36 : decode cX1_init 36 = .ok (.iconst 0, 1) := by decide +kernel
theorem dX1_init_37 : decode cX1_init 37 = .ok (.istore_n 1, 1) := by decide +kernel
theorem dX1_init_38 : decode cX1_init 38 = .ok (.iload_n 1, 1) := by decide +kernel
theorem dX1_init_39 : decode cX1_init 39 = .ok (.sipush 200, 3) := by decide +kernel
theorem dX1_init_42 : decode cX1_init 42 = .ok (.if_icmp .ge 22, 3) := by decide +kernel
theorem dX1_init_45 : decode cX1_init 45 = .ok (.aload_n 0, 1) := by decide +kernel
theorem dX1_init_46 : decode cX1_init 46 = .ok (.getfield 11, 3) := by decide +kernel
theorem dX1_init_49 : decode cX1_init 49 = .ok (.iload_n 1, 1) := by decide +kernel
theorem dX1_init_50 : decode cX1_init 50 = .ok (.new 9, 3) := by decide +kernel
theorem dX1_init_53 : decode cX1_init 53 = .ok (.dup, 1) := by decide +kernel
theorem dX1_init_54 : decode cX1_init 54 = .ok (.invokespecial 17, 3) := by decide +kernel
theorem dX1_init_57 : decode cX1_init 57 = .ok (.aastore, 1) := by decide +kernel
theorem dX1_init_58 : decode cX1_init 58 = .ok (.iinc 1 1, 3) := by decide +kernel
theorem dX1_init_61 : decode cX1_init 61 = .ok (.goto (-23), 3) := by decide +kernel
theorem dX1_init_64 : decode cX1_init 64 = .ok (.return_, 1) := by decide +kernel
theorem dX1_send_0 : decode cX1_send 0 = .ok (.aload_n 0, 1) := by decide +kernel
theorem dX1_send_1 : decode cX1_send 1 = .ok (.getfield 22, 3) := by decide +kernel
theorem dX1_send_4 : decode cX1_send 4 = .ok (.astore 4, 2) := by decide +kernel
theorem dX1_send_6 : decode cX1_send 6 = .ok (.aload_n 0, 1) := by decide +kernel
theorem dX1_send_7 : decode cX1_send 7 = .ok (.getfield 25, 3) := by decide +kernel
theorem dX1_send_10 : decode cX1_send 10 = .ok (.sipush 200, 3) := by decide +kernel
theorem dX1_send_13 : decode cX1_send 13 = .ok (.if_icmp .ge 27, 3) := by decide +kernel
theorem dX1_send_16 : decode cX1_send 16 = .ok (.aload_n 0, 1) := by decide +kernel
theorem dX1_send_17 : decode cX1_send 17 = .ok (.getfield 11, 3) := by decide +kernel
theorem dX1_send_20 : decode cX1_send 20 = .ok (.aload_n 0, 1) := by decide +kernel
theorem dX1_send_21 : decode cX1_send 21 = .ok (.getfield 25, 3) := by decide +kernel
theorem dX1_send_24 : decode cX1_send 24 = .ok (.aaload, 1) := by decide +kernel
theorem dX1_send_25 : decode cX1_send 25 = .ok (.astore 4, 2) := by decide +kernel
theorem dX1_send_27 : decode cX1_send 27 = .ok (.aload_n 0, 1) := by decide +kernel
theorem dX1_send_28 : decode cX1_send 28 = .ok (.dup, 1) := by decide +kernel
theorem dX1_send_29 : decode cX1_send 29 = .ok (.getfield 25, 3) := by decide +kernel
theorem dX1_send_32 : decode cX1_send 32 = .ok (.iconst 1, 1) := by decide +kernel
theorem dX1_send_33 : decode cX1_send 33 = .ok (.iadd, 1) := by decide +kernel
theorem dX1_send_34 : decode cX1_send 34 = .ok (.putfield 25, 3) := by decide +kernel
theorem dX1_send_37 : decode cX1_send 37 = .ok (.goto 13, 3) := by decide +kernel
theorem dX1_send_40 : decode cX1_send 40 = .ok (.aload_n 0, 1) := by decide +kernel
theorem dX1_send_41 : decode cX1_send 41 = .ok (.dup, 1) := by decide +kernel
theorem dX1_send_42 : decode cX1_send 42 = .ok (.getfield 29, 3) := by decide +kernel
theorem dX1_send_45 : decode cX1_send 45 = .ok (.iconst 1, 1) := by decide +kernel
theorem dX1_send_46 : decode cX1_send 46 = .ok (.iadd, 1) := by decide +kernel
theorem dX1_send_47 : decode cX1_send 47 = .ok (.putfield 29, 3) := by decide +kernel
theorem dX1_send_50 : decode cX1_send 50 = .ok (.aload 4, 2) := by decide +kernel
theorem dX1_send_52 : decode cX1_send 52 = .ok (.aload_n 0, 1) := by decide +kernel
theorem dX1_send_53 : decode cX1_send 53 = .ok (.getfield 32, 3) := by decide +kernel
theorem dX1_send_56 : decode cX1_send 56 = .ok (.putfield 35, 3) := by decide +kernel
theorem dX1_send_59 : decode cX1_send 59 = .ok (.aload_n 0, 1) := by decide +kernel
theorem dX1_send_60 : decode cX1_send 60 = .ok (.dup, 1) := by decide +kernel
theorem dX1_send_61 : decode cX1_send 61 = .ok (.getfield 32, 3) := by decide +kernel
theorem dX1_send_64 : decode cX1_send 64 = .ok (.iconst 1, 1) := by decide +kernel
theorem dX1_send_65 : decode cX1_send 65 = .ok (.iadd, 1) := by decide +kernel
theorem dX1_send_66 : decode cX1_send 66 = .ok (.putfield 32, 3) := by decide +kernel
theorem dX1_send_69 : decode cX1_send 69 = .ok (.aload 4, 2) := by decide +kernel
theorem dX1_send_71 : decode cX1_send 71 = .ok (.iload_n 1, 1) := by decide +kernel
theorem dX1_send_72 : decode cX1_send 72 = .ok (.putfield 38, 3) := by decide +kernel
theorem dX1_send_75 : decode cX1_send 75 = .ok (.aload 4, 2) := by decide +kernel
theorem dX1_send_77 : decode cX1_send 77 = .ok (.iload_n 2, 1) := by decide +kernel
theorem dX1_send_78 : decode cX1_send 78 = .ok (.putfield 41, 3) := by decide +kernel
theorem dX1_send_81 : decode cX1_send 81 = .ok (.aload 4, 2) := by decide +kernel
theorem dX1_send_83 : decode cX1_send 83 = .ok (.iload_n 3, 1) := by decide +kernel
theorem dX1_send_84 : decode cX1_send 84 = .ok (.putfield 44, 3) := by decide +kernel
theorem dX1_send_87 : decode cX1_send 87 = .ok (.aload 4, 2) := by decide +kernel
theorem dX1_send_89 : decode cX1_send 89 = .ok (.areturn, 1) := by decide +kernel
theorem dX1_placeOf_0 : decode cX1_placeOf 0 = .ok (.iconst 0, 1) := by decide +kernel
theorem dX1_placeOf_1 : decode cX1_placeOf 1 = .ok (.istore_n 2, 1) := by decide +kernel
theorem dX1_placeOf_2 : decode cX1_placeOf 2 = .ok (.iload_n 2, 1) := by decide +kernel
theorem dX1_placeOf_3 : decode cX1_placeOf 3 = .ok (.aload_n 0, 1) := by decide +kernel
theorem dX1_placeOf_4 : decode cX1_placeOf 4 = .ok (.getfield 25, 3) := by decide +kernel
theorem dX1_placeOf_7 : decode cX1_placeOf 7 = .ok (.if_icmp .ge 24, 3) := by decide +kernel
theorem dX1_placeOf_10 : decode cX1_placeOf 10 = .ok (.aload_n 0, 1) := by decide +kernel
theorem dX1_placeOf_11 : decode cX1_placeOf 11 = .ok (.getfield 11, 3) := by decide +kernel
theorem dX1_placeOf_14 : decode cX1_placeOf 14 = .ok (.iload_n 2, 1) := by decide +kernel
theorem dX1_placeOf_15 : decode cX1_placeOf 15 = .ok (.aaload, 1) := by decide +kernel
theorem dX1_placeOf_16 : decode cX1_placeOf 16 = .ok (.getfield 35, 3) := by decide +kernel
theorem dX1_placeOf_19 : decode cX1_placeOf 19 = .ok (.iload_n 1, 1) := by decide +kernel
theorem dX1_placeOf_20 : decode cX1_placeOf 20 = .ok (.if_icmp .ne 5, 3) := by decide +kernel
theorem dX1_placeOf_23 : decode cX1_placeOf 23 = .ok (.iload_n 2, 1) := by decide +kernel
theorem dX1_placeOf_24 : decode cX1_placeOf 24 = .ok (.ireturn, 1) := by decide +kernel
theorem dX1_placeOf_25 : decode cX1_placeOf 25 = .ok (.iinc 2 1, 3) := by decide +kernel
theorem dX1_placeOf_28 : decode cX1_placeOf 28 = .ok (.goto (-26), 3) := by decide +kernel
theorem dX1_placeOf_31 : decode cX1_placeOf 31 = .ok (.iconst (-1), 1) := by decide +kernel
theorem dX1_placeOf_32 : decode cX1_placeOf 32 = .ok (.ireturn, 1) := by decide +kernel
theorem dX1_takeOut_0 : decode cX1_takeOut 0 = .ok (.aload_n 0, 1) := by decide +kernel
theorem dX1_takeOut_1 : decode cX1_takeOut 1 = .ok (.getfield 11, 3) := by decide +kernel
theorem dX1_takeOut_4 : decode cX1_takeOut 4 = .ok (.iload_n 1, 1) := by decide +kernel
theorem dX1_takeOut_5 : decode cX1_takeOut 5 = .ok (.aaload, 1) := by decide +kernel
theorem dX1_takeOut_6 : decode cX1_takeOut 6 = .ok (.astore_n 2, 1) := by decide +kernel
theorem dX1_takeOut_7 : decode cX1_takeOut 7 = .ok (.aload_n 0, 1) := by decide +kernel
theorem dX1_takeOut_8 : decode cX1_takeOut 8 = .ok (.dup, 1) := by decide +kernel
theorem dX1_takeOut_9 : decode cX1_takeOut 9 = .ok (.getfield 25, 3) := by decide +kernel
theorem dX1_takeOut_12 : decode cX1_takeOut 12 = .ok (.iconst 1, 1) := by decide +kernel
theorem dX1_takeOut_13 : decode cX1_takeOut 13 = .ok (.isub, 1) := by decide +kernel
theorem dX1_takeOut_14 : decode cX1_takeOut 14 = .ok (.putfield 25, 3) := by decide +kernel
theorem dX1_takeOut_17 : decode cX1_takeOut 17 = .ok (.iload_n 1, 1) := by decide +kernel
theorem dX1_takeOut_18 : decode cX1_takeOut 18 = .ok (.istore_n 3, 1) := by decide +kernel
theorem dX1_takeOut_19 : decode cX1_takeOut 19 = .ok (.iload_n 3, 1) := by decide +kernel
theorem dX1_takeOut_20 : decode cX1_takeOut 20 = .ok (.aload_n 0, 1) := by decide +kernel
theorem dX1_takeOut_21 : decode cX1_takeOut 21 = .ok (.getfield 25, 3) := by decide +kernel
theorem dX1_takeOut_24 : decode cX1_takeOut 24 = .ok (.if_icmp .ge 23, 3) := by decide +kernel
theorem dX1_takeOut_27 : decode cX1_takeOut 27 = .ok (.aload_n 0, 1) := by decide +kernel
theorem dX1_takeOut_28 : decode cX1_takeOut 28 = .ok (.getfield 11, 3) := by decide +kernel
theorem dX1_takeOut_31 : decode cX1_takeOut 31 = .ok (.iload_n 3, 1) := by decide +kernel
theorem dX1_takeOut_32 : decode cX1_takeOut 32 = .ok (.aload_n 0, 1) := by decide +kernel
theorem dX1_takeOut_33 : decode cX1_takeOut 33 = .ok (.getfield 11, 3) := by decide +kernel
theorem dX1_takeOut_36 : decode cX1_takeOut 36 = .ok (.iload_n 3, 1) := by decide +kernel
theorem dX1_takeOut_37 : decode cX1_takeOut 37 = .ok (.iconst 1, 1) := by decide +kernel
theorem dX1_takeOut_38 : decode cX1_takeOut 38 = .ok (.iadd, 1) := by decide +kernel
theorem dX1_takeOut_39 : decode cX1_takeOut 39 = .ok (.aaload, 1) := by decide +kernel
theorem dX1_takeOut_40 : decode cX1_takeOut 40 = .ok (.aastore, 1) := by decide +kernel
theorem dX1_takeOut_41 : decode cX1_takeOut 41 = .ok (.iinc 3 1, 3) := by decide +kernel
theorem dX1_takeOut_44 : decode cX1_takeOut 44 = .ok (.goto (-25), 3) := by decide +kernel
theorem dX1_takeOut_47 : decode cX1_takeOut 47 = .ok (.aload_n 0, 1) := by decide +kernel
theorem dX1_takeOut_48 : decode cX1_takeOut 48 = .ok (.getfield 11, 3) := by decide +kernel
theorem dX1_takeOut_51 : decode cX1_takeOut 51 = .ok (.aload_n 0, 1) := by decide +kernel
theorem dX1_takeOut_52 : decode cX1_takeOut 52 = .ok (.getfield 25, 3) := by decide +kernel
theorem dX1_takeOut_55 : decode cX1_takeOut 55 = .ok (.aload_n 0, 1) := by decide +kernel
theorem dX1_takeOut_56 : decode cX1_takeOut 56 = .ok (.getfield 18, 3) := by decide +kernel
theorem dX1_takeOut_59 : decode cX1_takeOut 59 = .ok (.aastore, 1) := by decide +kernel
theorem dX1_takeOut_60 : decode cX1_takeOut 60 = .ok (.aload_n 0, 1) := by decide +kernel
theorem dX1_takeOut_61 : decode cX1_takeOut 61 = .ok (.aload_n 2, 1) := by decide +kernel
theorem dX1_takeOut_62 : decode cX1_takeOut 62 = .ok (.putfield 18, 3) := by decide +kernel
theorem dX1_takeOut_65 : decode cX1_takeOut 65 = .ok (.aload_n 2, 1) := by decide +kernel
theorem dX1_takeOut_66 : decode cX1_takeOut 66 = .ok (.areturn, 1) := by decide +kernel
theorem dX2_init_0 : decode cX2_init 0 = .ok (.aload_n 0, 1) := by decide +kernel
theorem dX2_init_1 : decode cX2_init 1 = .ok (.invokespecial 3, 3) := by decide +kernel
theorem dX2_init_4 : decode cX2_init 4 = .ok (.aload_n 0, 1) := by decide +kernel
theorem dX2_init_5 : decode cX2_init 5 = .ok (.iconst 0, 1) := by decide +kernel
theorem dX2_init_6 : decode cX2_init 6 = .ok (.putfield 9, 3) := by decide +kernel
theorem dX2_init_9 : decode cX2_init 9 = .ok (.aload_n 0, 1) := by decide +kernel
theorem dX2_init_10 : decode cX2_init 10 = .ok (.iconst 0, 1) := by decide +kernel
theorem dX2_init_11 : decode cX2_init 11 = .ok (.putfield 15, 3) := by decide +kernel
theorem dX2_init_14 : decode cX2_init 14 = .ok (.aload_n 0, 1) := by decide +kernel
theorem dX2_init_15 : decode cX2_init 15 = .ok (.bipush 64, 2) := by decide +kernel
theorem dX2_init_17 : decode cX2_init 17 = .ok (.anewarray 18, 3) := by decide +kernel
theorem dX2_init_20 : decode cX2_init 20 = .ok (.putfield 20, 3) := by decide +kernel
theorem dX2_init_23 : decode cX2_init 23 = .ok (.aload_n 0, 1) := by decide +kernel
theorem dX2_init_24 : decode cX2_init 24 = .ok (.bipush 64, 2) := by decide +kernel
theorem dX2_init_26 : decode cX2_init 26 = .ok (.newarray .int, 2) := by decide +kernel
theorem dX2_init_28 : decode cX2_init 28 = .ok (.putfield 24, 3) := by decide +kernel
theorem dX2_init_31 : decode cX2_init 31 = .ok (.aload_n 0, 1) := by decide +kernel
theorem dX2_init_32 : decode cX2_init 32 = .ok (.bipush 64, 2) := by decide +kernel
theorem dX2_init_34 : decode cX2_init 34 = .ok (.newarray .int, 2) := by decide +kernel
theorem dX2_init_36 : decode cX2_init 36 = .ok (.putfield 28, 3) := by decide +kernel
theorem dX2_init_39 : decode cX2_init 39 = .ok (.aload_n 0, 1) := by decide +kernel
theorem dX2_init_40 : decode cX2_init 40 = .ok (.bipush 64, 2) := by decide +kernel
theorem dX2_init_42 : decode cX2_init 42 = .ok (.newarray .int, 2) := by decide +kernel
theorem dX2_init_44 : decode cX2_init 44 = .ok (.putfield 31, 3) := by decide +kernel
theorem dX2_init_47 : decode cX2_init 47 = .ok (.aload_n 0, 1) := by decide +kernel
theorem dX2_init_48 : decode cX2_init 48 = .ok (.iload_n 1, 1) := by decide +kernel
theorem dX2_init_49 : decode cX2_init 49 = .ok (.putfield 34, 3) := by decide +kernel
theorem dX2_init_52 : decode cX2_init 52 = .ok (.return_, 1) := by decide +kernel
theorem dX2_ask_0 : decode cX2_ask 0 = .ok (.aload_n 0, 1) := by decide +kernel
theorem dX2_ask_1 : decode cX2_ask 1 = .ok (.dup, 1) := by decide +kernel
theorem dX2_ask_2 : decode cX2_ask 2 = .ok (.getfield 37, 3) := by decide +kernel
theorem dX2_ask_5 : decode cX2_ask 5 = .ok (.iconst 1, 1) := by decide +kernel
theorem dX2_ask_6 : decode cX2_ask 6 = .ok (.iadd, 1) := by decide +kernel
theorem dX2_ask_7 : decode cX2_ask 7 = .ok (.putfield 37, 3) := by decide +kernel
theorem dX2_ask_10 : decode cX2_ask 10 = .ok (.aload_n 0, 1) := by decide +kernel
theorem dX2_ask_11 : decode cX2_ask 11 = .ok (.iload_n 1, 1) := by decide +kernel
theorem dX2_ask_12 : decode cX2_ask 12 = .ok (.putfield 9, 3) := by decide +kernel
theorem dX2_ask_15 : decode cX2_ask 15 = .ok (.aload_n 0, 1) := by decide +kernel
theorem dX2_ask_16 : decode cX2_ask 16 = .ok (.iconst 1, 1) := by decide +kernel
theorem dX2_ask_17 : decode cX2_ask 17 = .ok (.putfield 15, 3) := by decide +kernel
theorem dX2_ask_20 : decode cX2_ask 20 = .ok (.aload_n 0, 1) := by decide +kernel
theorem dX2_ask_21 : decode cX2_ask 21 = .ok (.iconst 0, 1) := by decide +kernel
theorem dX2_ask_22 : decode cX2_ask 22 = .ok (.putfield 40, 3) := by decide +kernel
theorem dX2_ask_25 : decode cX2_ask 25 = .ok (.aload_n 0, 1) := by decide +kernel
theorem dX2_ask_26 : decode cX2_ask 26 = .ok (.iconst 0, 1) := by decide +kernel
theorem dX2_ask_27 : decode cX2_ask 27 = .ok (.putfield 43, 3) := by decide +kernel
theorem dX2_ask_30 : decode cX2_ask 30 = .ok (.return_, 1) := by decide +kernel
theorem dX2_hear_0 : decode cX2_hear 0 = .ok (.aload_n 0, 1) := by decide +kernel
theorem dX2_hear_1 : decode cX2_hear 1 = .ok (.getfield 15, 3) := by decide +kernel
theorem dX2_hear_4 : decode cX2_hear 4 = .ok (.iconst 1, 1) := by decide +kernel
theorem dX2_hear_5 : decode cX2_hear 5 = .ok (.if_icmp .ne 14, 3) := by decide +kernel
theorem dX2_hear_8 : decode cX2_hear 8 = .ok (.aload_n 1, 1) := by decide +kernel
theorem dX2_hear_9 : decode cX2_hear 9 = .ok (.getfield 46, 3) := by decide +kernel
theorem dX2_hear_12 : decode cX2_hear 12 = .ok (.aload_n 0, 1) := by decide +kernel
theorem dX2_hear_13 : decode cX2_hear 13 = .ok (.getfield 9, 3) := by decide +kernel
theorem dX2_hear_16 : decode cX2_hear 16 = .ok (.if_icmp .eq 5, 3) := by decide +kernel
theorem dX2_hear_19 : decode cX2_hear 19 = .ok (.iconst 0, 1) := by decide +kernel
theorem dX2_hear_20 : decode cX2_hear 20 = .ok (.ireturn, 1) := by decide +kernel
theorem dX2_hear_21 : decode cX2_hear 21 = .ok (.aload_n 0, 1) := by decide +kernel
theorem dX2_hear_22 : decode cX2_hear 22 = .ok (.aload_n 1, 1) := by decide +kernel
theorem dX2_hear_23 : decode cX2_hear 23 = .ok (.getfield 51, 3) := by decide +kernel
theorem dX2_hear_26 : decode cX2_hear 26 = .ok (.aload_n 1, 1) := by decide +kernel
theorem dX2_hear_27 : decode cX2_hear 27 = .ok (.getfield 55, 3) := by decide +kernel
theorem dX2_hear_30 : decode cX2_hear 30 = .ok (.invokevirtual 58, 3) := by decide +kernel
theorem dX2_hear_33 : decode cX2_hear 33 = .ok (.istore_n 2, 1) := by decide +kernel
theorem dX2_hear_34 : decode cX2_hear 34 = .ok (.aload_n 1, 1) := by decide +kernel
theorem dX2_hear_35 : decode cX2_hear 35 = .ok (.getfield 51, 3) := by decide +kernel
theorem dX2_hear_38 : decode cX2_hear 38 = .ok (.aload_n 0, 1) := by decide +kernel
theorem dX2_hear_39 : decode cX2_hear 39 = .ok (.getfield 34, 3) := by decide +kernel
theorem dX2_hear_42 : decode cX2_hear 42 = .ok (.invokevirtual 62, 3) := by decide +kernel
theorem dX2_hear_45 : decode cX2_hear 45 = .ok (.istore_n 3, 1) := by decide +kernel
theorem dX2_hear_46 : decode cX2_hear 46 = .ok (.aload_n 0, 1) := by decide +kernel
theorem dX2_hear_47 : decode cX2_hear 47 = .ok (.getfield 28, 3) := by decide +kernel
theorem dX2_hear_50 : decode cX2_hear 50 = .ok (.iload_n 2, 1) := by decide +kernel
theorem dX2_hear_51 : decode cX2_hear 51 = .ok (.dup2, 1) := by decide +kernel
theorem dX2_hear_52 : decode cX2_hear 52 = .ok (.iaload, 1) := by decide +kernel
theorem dX2_hear_53 : decode cX2_hear 53 = .ok (.iconst 1, 1) := by decide +kernel
theorem dX2_hear_54 : decode cX2_hear 54 = .ok (.aload_n 1, 1) := by decide +kernel
theorem dX2_hear_55 : decode cX2_hear 55 = .ok (.getfield 66, 3) := by decide +kernel
theorem dX2_hear_58 : decode cX2_hear 58 = .ok (.ishl, 1) := by decide +kernel
theorem dX2_hear_59 : decode cX2_hear 59 = .ok (.ior, 1) := by decide +kernel
theorem dX2_hear_60 : decode cX2_hear 60 = .ok (.iastore, 1) := by decide +kernel
theorem dX2_hear_61 : decode cX2_hear 61 = .ok (.aload_n 1, 1) := by decide +kernel
theorem dX2_hear_62 : decode cX2_hear 62 = .ok (.getfield 66, 3) := by decide +kernel
theorem dX2_hear_65 : decode cX2_hear 65 = .ok (.iload_n 3, 1) := by decide +kernel
theorem dX2_hear_66 : decode cX2_hear 66 = .ok (.if_icmp .ne 13, 3) := by decide +kernel
theorem dX2_hear_69 : decode cX2_hear 69 = .ok (.aload_n 0, 1) := by decide +kernel
theorem dX2_hear_70 : decode cX2_hear 70 = .ok (.getfield 31, 3) := by decide +kernel
theorem dX2_hear_73 : decode cX2_hear 73 = .ok (.iload_n 2, 1) := by decide +kernel
theorem dX2_hear_74 : decode cX2_hear 74 = .ok (.aload_n 1, 1) := by decide +kernel
theorem dX2_hear_75 : decode cX2_hear 75 = .ok (.getfield 69, 3) := by decide +kernel
theorem dX2_hear_78 : decode cX2_hear 78 = .ok (.iastore, 1) := by decide +kernel
theorem dX2_hear_79 : decode cX2_hear 79 = .ok (.aload_n 0, 1) := by decide +kernel
theorem dX2_hear_80 : decode cX2_hear 80 = .ok (.getfield 28, 3) := by decide +kernel
theorem dX2_hear_83 : decode cX2_hear 83 = .ok (.iload_n 2, 1) := by decide +kernel
theorem dX2_hear_84 : decode cX2_hear 84 = .ok (.iaload, 1) := by decide +kernel
theorem dX2_hear_85 : decode cX2_hear 85 = .ok (.invokestatic 72, 3) := by decide +kernel
theorem dX2_hear_88 : decode cX2_hear 88 = .ok (.aload_n 0, 1) := by decide +kernel
theorem dX2_hear_89 : decode cX2_hear 89 = .ok (.getfield 34, 3) := by decide +kernel
theorem dX2_hear_92 : decode cX2_hear 92 = .ok (.iconst 2, 1) := by decide +kernel
theorem dX2_hear_93 : decode cX2_hear 93 = .ok (.idiv, 1) := by decide +kernel
theorem dX2_hear_94 : decode cX2_hear 94 = .ok (.if_icmp .le 16, 3) := by decide +kernel
theorem dX2_hear_97 : decode cX2_hear 97 = .ok (.aload_n 0, 1) := by decide +kernel
theorem dX2_hear_98 : decode cX2_hear 98 = .ok (.getfield 28, 3) := by decide +kernel
theorem dX2_hear_101 : decode cX2_hear 101 = .ok (.iload_n 2, 1) := by decide +kernel
theorem dX2_hear_102 : decode cX2_hear 102 = .ok (.iaload, 1) := by decide +kernel
theorem dX2_hear_103 : decode cX2_hear 103 = .ok (.iconst 1, 1) := by decide +kernel
theorem dX2_hear_104 : decode cX2_hear 104 = .ok (.iload_n 3, 1) := by decide +kernel
theorem dX2_hear_105 : decode cX2_hear 105 = .ok (.ishl, 1) := by decide +kernel
theorem dX2_hear_106 : decode cX2_hear 106 = .ok (.iand, 1) := by decide +kernel
theorem dX2_hear_107 : decode cX2_hear 107 = .ok (.ifCond .ne 5, 3) := by decide +kernel
theorem dX2_hear_110 : decode cX2_hear 110 = .ok (.iconst 0, 1) := by decide +kernel
theorem dX2_hear_111 : decode cX2_hear 111 = .ok (.ireturn, 1) := by decide +kernel
theorem dX2_hear_112 : decode cX2_hear 112 = .ok (.aload_n 0, 1) := by decide +kernel
theorem dX2_hear_113 : decode cX2_hear 113 = .ok (.iconst 2, 1) := by decide +kernel
theorem dX2_hear_114 : decode cX2_hear 114 = .ok (.putfield 15, 3) := by decide +kernel
theorem dX2_hear_117 : decode cX2_hear 117 = .ok (.aload_n 0, 1) := by decide +kernel
theorem dX2_hear_118 : decode cX2_hear 118 = .ok (.aload_n 1, 1) := by decide +kernel
theorem dX2_hear_119 : decode cX2_hear 119 = .ok (.getfield 51, 3) := by decide +kernel
theorem dX2_hear_122 : decode cX2_hear 122 = .ok (.putfield 77, 3) := by decide +kernel
theorem dX2_hear_125 : decode cX2_hear 125 = .ok (.aload_n 0, 1) := by decide +kernel
theorem dX2_hear_126 : decode cX2_hear 126 = .ok (.aload_n 1, 1) := by decide +kernel
theorem dX2_hear_127 : decode cX2_hear 127 = .ok (.getfield 55, 3) := by decide +kernel
theorem dX2_hear_130 : decode cX2_hear 130 = .ok (.putfield 80, 3) := by decide +kernel
theorem dX2_hear_133 : decode cX2_hear 133 = .ok (.aload_n 0, 1) := by decide +kernel
theorem dX2_hear_134 : decode cX2_hear 134 = .ok (.aload_n 0, 1) := by decide +kernel
theorem dX2_hear_135 : decode cX2_hear 135 = .ok (.getfield 31, 3) := by decide +kernel
theorem dX2_hear_138 : decode cX2_hear 138 = .ok (.iload_n 2, 1) := by decide +kernel
theorem dX2_hear_139 : decode cX2_hear 139 = .ok (.iaload, 1) := by decide +kernel
theorem dX2_hear_140 : decode cX2_hear 140 = .ok (.putfield 83, 3) := by decide +kernel
theorem dX2_hear_143 : decode cX2_hear 143 = .ok (.iconst 1, 1) := by decide +kernel
theorem dX2_hear_144 : decode cX2_hear 144 = .ok (.ireturn, 1) := by decide +kernel
theorem dX2_placeOf_0 : decode cX2_placeOf 0 = .ok (.iconst 0, 1) := by decide +kernel
theorem dX2_placeOf_1 : decode cX2_placeOf 1 = .ok (.istore_n 3, 1) := by decide +kernel
theorem dX2_placeOf_2 : decode cX2_placeOf 2 = .ok (.iload_n 3, 1) := by decide +kernel
theorem dX2_placeOf_3 : decode cX2_placeOf 3 = .ok (.aload_n 0, 1) := by decide +kernel
theorem dX2_placeOf_4 : decode cX2_placeOf 4 = .ok (.getfield 40, 3) := by decide +kernel
theorem dX2_placeOf_7 : decode cX2_placeOf 7 = .ok (.if_icmp .ge 34, 3) := by decide +kernel
theorem dX2_placeOf_10 : decode cX2_placeOf 10 = .ok (.aload_n 0, 1) := by decide +kernel
theorem dX2_placeOf_11 : decode cX2_placeOf 11 = .ok (.getfield 24, 3) := by decide +kernel
theorem dX2_placeOf_14 : decode cX2_placeOf 14 = .ok (.iload_n 3, 1) := by decide +kernel
theorem dX2_placeOf_15 : decode cX2_placeOf 15 = .ok (.iaload, 1) := by decide +kernel
theorem dX2_placeOf_16 : decode cX2_placeOf 16 = .ok (.iload_n 2, 1) := by decide +kernel
theorem dX2_placeOf_17 : decode cX2_placeOf 17 = .ok (.if_icmp .ne 18, 3) := by decide +kernel
theorem dX2_placeOf_20 : decode cX2_placeOf 20 = .ok (.aload_n 0, 1) := by decide +kernel
theorem dX2_placeOf_21 : decode cX2_placeOf 21 = .ok (.getfield 20, 3) := by decide +kernel
theorem dX2_placeOf_24 : decode cX2_placeOf 24 = .ok (.iload_n 3, 1) := by decide +kernel
theorem dX2_placeOf_25 : decode cX2_placeOf 25 = .ok (.aaload, 1) := by decide +kernel
theorem dX2_placeOf_26 : decode cX2_placeOf 26 = .ok (.aload_n 1, 1) := by decide +kernel
theorem dX2_placeOf_27 : decode cX2_placeOf 27 = .ok (.invokevirtual 84, 3) := by decide +kernel
theorem dX2_placeOf_30 : decode cX2_placeOf 30 = .ok (.ifCond .eq 5, 3) := by decide +kernel
theorem dX2_placeOf_33 : decode cX2_placeOf 33 = .ok (.iload_n 3, 1) := by decide +kernel
theorem dX2_placeOf_34 : decode cX2_placeOf 34 = .ok (.ireturn, 1) := by decide +kernel
theorem dX2_placeOf_35 : decode cX2_placeOf 35 = .ok (.iinc 3 1, 3) := by decide +kernel
theorem dX2_placeOf_38 : decode cX2_placeOf 38 = .ok (.goto (-36), 3) := by decide +kernel
theorem dX2_placeOf_41 : decode cX2_placeOf 41 = .ok (.aload_n 0, 1) := by decide +kernel
theorem dX2_placeOf_42 : decode cX2_placeOf 42 = .ok (.getfield 43, 3) := by decide +kernel
theorem dX2_placeOf_45 : decode cX2_placeOf 45 = .ok (.istore_n 3, 1) := by decide +kernel
theorem dX2_placeOf_46 : decode cX2_placeOf 46 = .ok (.aload_n 0, 1) := by decide +kernel
theorem dX2_placeOf_47 : decode cX2_placeOf 47 = .ok (.aload_n 0, 1) := by decide +kernel
theorem dX2_placeOf_48 : decode cX2_placeOf 48 = .ok (.getfield 43, 3) := by decide +kernel
theorem dX2_placeOf_51 : decode cX2_placeOf 51 = .ok (.iconst 1, 1) := by decide +kernel
theorem dX2_placeOf_52 : decode cX2_placeOf 52 = .ok (.iadd, 1) := by decide +kernel
theorem dX2_placeOf_53 : decode cX2_placeOf 53 = .ok (.bipush 64, 2) := by decide +kernel
theorem dX2_placeOf_55 : decode cX2_placeOf 55 = .ok (.irem, 1) := by decide +kernel
theorem dX2_placeOf_56 : decode cX2_placeOf 56 = .ok (.putfield 43, 3) := by decide +kernel
theorem dX2_placeOf_59 : decode cX2_placeOf 59 = .ok (.aload_n 0, 1) := by decide +kernel
theorem dX2_placeOf_60 : decode cX2_placeOf 60 = .ok (.aload_n 0, 1) := by decide +kernel
theorem dX2_placeOf_61 : decode cX2_placeOf 61 = .ok (.getfield 40, 3) := by decide +kernel
theorem dX2_placeOf_64 : decode cX2_placeOf 64 = .ok (.iconst 1, 1) := by decide +kernel
theorem dX2_placeOf_65 : decode cX2_placeOf 65 = .ok (.iadd, 1) := by decide +kernel
theorem dX2_placeOf_66 : decode cX2_placeOf 66 = .ok (.bipush 64, 2) := by decide +kernel
theorem dX2_placeOf_68 : decode cX2_placeOf 68 = .ok (.invokestatic 88, 3) := by decide +kernel
theorem dX2_placeOf_71 : decode cX2_placeOf 71 = .ok (.putfield 40, 3) := by decide +kernel
theorem dX2_placeOf_74 : decode cX2_placeOf 74 = .ok (.aload_n 0, 1) := by decide +kernel
theorem dX2_placeOf_75 : decode cX2_placeOf 75 = .ok (.getfield 20, 3) := by decide +kernel
theorem dX2_placeOf_78 : decode cX2_placeOf 78 = .ok (.iload_n 3, 1) := by decide +kernel
theorem dX2_placeOf_79 : decode cX2_placeOf 79 = .ok (.aload_n 1, 1) := by decide +kernel
theorem dX2_placeOf_80 : decode cX2_placeOf 80 = .ok (.aastore, 1) := by decide +kernel
theorem dX2_placeOf_81 : decode cX2_placeOf 81 = .ok (.aload_n 0, 1) := by decide +kernel
theorem dX2_placeOf_82 : decode cX2_placeOf 82 = .ok (.getfield 24, 3) := by decide +kernel
theorem dX2_placeOf_85 : decode cX2_placeOf 85 = .ok (.iload_n 3, 1) := by decide +kernel
theorem dX2_placeOf_86 : decode cX2_placeOf 86 = .ok (.iload_n 2, 1) := by decide +kernel
theorem dX2_placeOf_87 : decode cX2_placeOf 87 = .ok (.iastore, 1) := by decide +kernel
theorem dX2_placeOf_88 : decode cX2_placeOf 88 = .ok (.aload_n 0, 1) := by decide +kernel
theorem dX2_placeOf_89 : decode cX2_placeOf 89 = .ok (.getfield 28, 3) := by decide +kernel
theorem dX2_placeOf_92 : decode cX2_placeOf 92 = .ok (.iload_n 3, 1) := by decide +kernel
theorem dX2_placeOf_93 : decode cX2_placeOf 93 = .ok (.iconst 0, 1) := by decide +kernel
theorem dX2_placeOf_94 : decode cX2_placeOf 94 = .ok (.iastore, 1) := by decide +kernel
theorem dX2_placeOf_95 : decode cX2_placeOf 95 = .ok (.aload_n 0, 1) := by decide +kernel
theorem dX2_placeOf_96 : decode cX2_placeOf 96 = .ok (.getfield 31, 3) := by decide +kernel
theorem dX2_placeOf_99 : decode cX2_placeOf 99 = .ok (.iload_n 3, 1) := by decide +kernel
theorem dX2_placeOf_100 : decode cX2_placeOf 100 = .ok (.iconst 0, 1) := by decide +kernel
theorem dX2_placeOf_101 : decode cX2_placeOf 101 = .ok (.iastore, 1) := by decide +kernel
theorem dX2_placeOf_102 : decode cX2_placeOf 102 = .ok (.iload_n 3, 1) := by decide +kernel
theorem dX2_placeOf_103 : decode cX2_placeOf 103 = .ok (.ireturn, 1) := by decide +kernel
theorem dX3_init_0 : decode cX3_init 0 = .ok (.aload_n 0, 1) := by decide +kernel
theorem dX3_init_1 : decode cX3_init 1 = .ok (.invokespecial 3, 3) := by decide +kernel
theorem dX3_init_4 : decode cX3_init 4 = .ok (.aload_n 0, 1) := by decide +kernel
theorem dX3_init_5 : decode cX3_init 5 = .ok (.bipush 9, 2) := by decide +kernel
theorem dX3_init_7 : decode cX3_init 7 = .ok (.newarray .int, 2) := by decide +kernel
theorem dX3_init_9 : decode cX3_init 9 = .ok (.putfield 9, 3) := by decide +kernel
theorem dX3_init_12 : decode cX3_init 12 = .ok (.aload_n 0, 1) := by decide +kernel
theorem dX3_init_13 : decode cX3_init 13 = .ok (.bipush 9, 2) := by decide +kernel
theorem dX3_init_15 : decode cX3_init 15 = .ok (.newarray .int, 2) := by decide +kernel
theorem dX3_init_17 : decode cX3_init 17 = .ok (.putfield 15, 3) := by decide +kernel
theorem dX3_init_20 : decode cX3_init 20 = .ok (.return_, 1) := by decide +kernel
theorem dX3_has_0 : decode cX3_has 0 = .ok (.aload_n 0, 1) := by decide +kernel
theorem dX3_has_1 : decode cX3_has 1 = .ok (.iload_n 1, 1) := by decide +kernel
theorem dX3_has_2 : decode cX3_has 2 = .ok (.invokevirtual 18, 3) := by decide +kernel
theorem dX3_has_5 : decode cX3_has 5 = .ok (.iconst (-1), 1) := by decide +kernel
theorem dX3_has_6 : decode cX3_has 6 = .ok (.if_icmp .eq 7, 3) := by decide +kernel
theorem dX3_has_9 : decode cX3_has 9 = .ok (.iconst 1, 1) := by decide +kernel
theorem dX3_has_10 : decode cX3_has 10 = .ok (.goto 4, 3) := by decide +kernel
theorem dX3_has_13 : decode cX3_has 13 = .ok (.iconst 0, 1) := by decide +kernel
theorem dX3_has_14 : decode cX3_has 14 = .ok (.ireturn, 1) := by decide +kernel
theorem dX3_put_0 : decode cX3_put 0 = .ok (.aload_n 0, 1) := by decide +kernel
theorem dX3_put_1 : decode cX3_put 1 = .ok (.iload_n 1, 1) := by decide +kernel
theorem dX3_put_2 : decode cX3_put 2 = .ok (.invokevirtual 22, 3) := by decide +kernel
theorem dX3_put_5 : decode cX3_put 5 = .ok (.pop, 1) := by decide +kernel
theorem dX3_put_6 : decode cX3_put 6 = .ok (.aload_n 0, 1) := by decide +kernel
theorem dX3_put_7 : decode cX3_put 7 = .ok (.getfield 25, 3) := by decide +kernel
theorem dX3_put_10 : decode cX3_put 10 = .ok (.bipush 8, 2) := by decide +kernel
theorem dX3_put_12 : decode cX3_put 12 = .ok (.if_icmp .gt 33, 3) := by decide +kernel
theorem dX3_put_15 : decode cX3_put 15 = .ok (.aload_n 0, 1) := by decide +kernel
theorem dX3_put_16 : decode cX3_put 16 = .ok (.getfield 9, 3) := by decide +kernel
theorem dX3_put_19 : decode cX3_put 19 = .ok (.aload_n 0, 1) := by decide +kernel
theorem dX3_put_20 : decode cX3_put 20 = .ok (.getfield 25, 3) := by decide +kernel
theorem dX3_put_23 : decode cX3_put 23 = .ok (.iload_n 1, 1) := by decide +kernel
theorem dX3_put_24 : decode cX3_put 24 = .ok (.iastore, 1) := by decide +kernel
theorem dX3_put_25 : decode cX3_put 25 = .ok (.aload_n 0, 1) := by decide +kernel
theorem dX3_put_26 : decode cX3_put 26 = .ok (.getfield 15, 3) := by decide +kernel
theorem dX3_put_29 : decode cX3_put 29 = .ok (.aload_n 0, 1) := by decide +kernel
theorem dX3_put_30 : decode cX3_put 30 = .ok (.getfield 25, 3) := by decide +kernel
theorem dX3_put_33 : decode cX3_put 33 = .ok (.iload_n 2, 1) := by decide +kernel
theorem dX3_put_34 : decode cX3_put 34 = .ok (.iastore, 1) := by decide +kernel
theorem dX3_put_35 : decode cX3_put 35 = .ok (.aload_n 0, 1) := by decide +kernel
theorem dX3_put_36 : decode cX3_put 36 = .ok (.dup, 1) := by decide +kernel
theorem dX3_put_37 : decode cX3_put 37 = .ok (.getfield 25, 3) := by decide +kernel
theorem dX3_put_40 : decode cX3_put 40 = .ok (.iconst 1, 1) := by decide +kernel
theorem dX3_put_41 : decode cX3_put 41 = .ok (.iadd, 1) := by decide +kernel
theorem dX3_put_42 : decode cX3_put 42 = .ok (.putfield 25, 3) := by decide +kernel
theorem dX3_put_45 : decode cX3_put 45 = .ok (.return_, 1) := by decide +kernel
theorem dX3_remove_0 : decode cX3_remove 0 = .ok (.aload_n 0, 1) := by decide +kernel
theorem dX3_remove_1 : decode cX3_remove 1 = .ok (.iload_n 1, 1) := by decide +kernel
theorem dX3_remove_2 : decode cX3_remove 2 = .ok (.invokevirtual 18, 3) := by decide +kernel
theorem dX3_remove_5 : decode cX3_remove 5 = .ok (.istore_n 2, 1) := by decide +kernel
theorem dX3_remove_6 : decode cX3_remove 6 = .ok (.iload_n 2, 1) := by decide +kernel
theorem dX3_remove_7 : decode cX3_remove 7 = .ok (.iconst (-1), 1) := by decide +kernel
theorem dX3_remove_8 : decode cX3_remove 8 = .ok (.if_icmp .ne 5, 3) := by decide +kernel
theorem dX3_remove_11 : decode cX3_remove 11 = .ok (.iconst 0, 1) := by decide +kernel
theorem dX3_remove_12 : decode cX3_remove 12 = .ok (.ireturn, 1) := by decide +kernel
theorem dX3_remove_13 : decode cX3_remove 13 = .ok (.aload_n 0, 1) := by decide +kernel
theorem dX3_remove_14 : decode cX3_remove 14 = .ok (.getfield 15, 3) := by decide +kernel
theorem dX3_remove_17 : decode cX3_remove 17 = .ok (.iload_n 2, 1) := by decide +kernel
theorem dX3_remove_18 : decode cX3_remove 18 = .ok (.iaload, 1) := by decide +kernel
theorem dX3_remove_19 : decode cX3_remove 19 = .ok (.istore_n 3, 1) := by decide +kernel
theorem dX3_remove_20 : decode cX3_remove 20 = .ok (.aload_n 0, 1) := by decide +kernel
theorem dX3_remove_21 : decode cX3_remove 21 = .ok (.dup, 1) := by decide +kernel
theorem dX3_remove_22 : decode cX3_remove 22 = .ok (.getfield 25, 3) := by decide +kernel
theorem dX3_remove_25 : decode cX3_remove 25 = .ok (.iconst 1, 1) := by decide +kernel
theorem dX3_remove_26 : decode cX3_remove 26 = .ok (.isub, 1) := by decide +kernel
theorem dX3_remove_27 : decode cX3_remove 27 = .ok (.putfield 25, 3) := by decide +kernel
theorem dX3_remove_30 : decode cX3_remove 30 = .ok (.aload_n 0, 1) := by decide +kernel
theorem dX3_remove_31 : decode cX3_remove 31 = .ok (.getfield 9, 3) := by decide +kernel
theorem dX3_remove_34 : decode cX3_remove 34 = .ok (.iload_n 2, 1) := by decide +kernel
theorem dX3_remove_35 : decode cX3_remove 35 = .ok (.aload_n 0, 1) := by decide +kernel
theorem dX3_remove_36 : decode cX3_remove 36 = .ok (.getfield 9, 3) := by decide +kernel
theorem dX3_remove_39 : decode cX3_remove 39 = .ok (.aload_n 0, 1) := by decide +kernel
theorem dX3_remove_40 : decode cX3_remove 40 = .ok (.getfield 25, 3) := by decide +kernel
theorem dX3_remove_43 : decode cX3_remove 43 = .ok (.iaload, 1) := by decide +kernel
theorem dX3_remove_44 : decode cX3_remove 44 = .ok (.iastore, 1) := by decide +kernel
theorem dX3_remove_45 : decode cX3_remove 45 = .ok (.aload_n 0, 1) := by decide +kernel
theorem dX3_remove_46 : decode cX3_remove 46 = .ok (.getfield 15, 3) := by decide +kernel
theorem dX3_remove_49 : decode cX3_remove 49 = .ok (.iload_n 2, 1) := by decide +kernel
theorem dX3_remove_50 : decode cX3_remove 50 = .ok (.aload_n 0, 1) := by decide +kernel
theorem dX3_remove_51 : decode cX3_remove 51 = .ok (.getfield 15, 3) := by decide +kernel
theorem dX3_remove_54 : decode cX3_remove 54 = .ok (.aload_n 0, 1) := by decide +kernel
theorem dX3_remove_55 : decode cX3_remove 55 = .ok (.getfield 25, 3) := by decide +kernel
theorem dX3_remove_58 : decode cX3_remove 58 = .ok (.iaload, 1) := by decide +kernel
theorem dX3_remove_59 : decode cX3_remove 59 = .ok (.iastore, 1) := by decide +kernel
theorem dX3_remove_60 : decode cX3_remove 60 = .ok (.iload_n 3, 1) := by decide +kernel
theorem dX3_remove_61 : decode cX3_remove 61 = .ok (.ireturn, 1) := by decide +kernel
theorem dX3_indexOf_0 : decode cX3_indexOf 0 = .ok (.iconst 0, 1) := by decide +kernel
theorem dX3_indexOf_1 : decode cX3_indexOf 1 = .ok (.istore_n 2, 1) := by decide +kernel
theorem dX3_indexOf_2 : decode cX3_indexOf 2 = .ok (.iload_n 2, 1) := by decide +kernel
theorem dX3_indexOf_3 : decode cX3_indexOf 3 = .ok (.aload_n 0, 1) := by decide +kernel
theorem dX3_indexOf_4 : decode cX3_indexOf 4 = .ok (.getfield 25, 3) := by decide +kernel
theorem dX3_indexOf_7 : decode cX3_indexOf 7 = .ok (.if_icmp .ge 21, 3) := by decide +kernel
theorem dX3_indexOf_10 : decode cX3_indexOf 10 = .ok (.aload_n 0, 1) := by decide +kernel
theorem dX3_indexOf_11 : decode cX3_indexOf 11 = .ok (.getfield 9, 3) := by decide +kernel
theorem dX3_indexOf_14 : decode cX3_indexOf 14 = .ok (.iload_n 2, 1) := by decide +kernel
theorem dX3_indexOf_15 : decode cX3_indexOf 15 = .ok (.iaload, 1) := by decide +kernel
theorem dX3_indexOf_16 : decode cX3_indexOf 16 = .ok (.iload_n 1, 1) := by decide +kernel
theorem dX3_indexOf_17 : decode cX3_indexOf 17 = .ok (.if_icmp .ne 5, 3) := by decide +kernel
theorem dX3_indexOf_20 : decode cX3_indexOf 20 = .ok (.iload_n 2, 1) := by decide +kernel
theorem dX3_indexOf_21 : decode cX3_indexOf 21 = .ok (.ireturn, 1) := by decide +kernel
theorem dX3_indexOf_22 : decode cX3_indexOf 22 = .ok (.iinc 2 1, 3) := by decide +kernel
theorem dX3_indexOf_25 : decode cX3_indexOf 25 = .ok (.goto (-23), 3) := by decide +kernel
theorem dX3_indexOf_28 : decode cX3_indexOf 28 = .ok (.iconst (-1), 1) := by decide +kernel
theorem dX3_indexOf_29 : decode cX3_indexOf 29 = .ok (.ireturn, 1) := by decide +kernel
theorem dX4_init_0 : decode cX4_init 0 = .ok (.aload_n 0, 1) := by decide +kernel
theorem dX4_init_1 : decode cX4_init 1 = .ok (.invokespecial 3, 3) := by decide +kernel
theorem dX4_init_4 : decode cX4_init 4 = .ok (.aload_n 0, 1) := by decide +kernel
theorem dX4_init_5 : decode cX4_init 5 = .ok (.bipush 100, 2) := by decide +kernel
theorem dX4_init_7 : decode cX4_init 7 = .ok (.newarray .int, 2) := by decide +kernel
theorem dX4_init_9 : decode cX4_init 9 = .ok (.putfield 9, 3) := by decide +kernel
theorem dX4_init_12 : decode cX4_init 12 = .ok (.return_, 1) := by decide +kernel
theorem dX4_has_0 : decode cX4_has 0 = .ok (.iload_n 1, 1) := by decide +kernel
theorem dX4_has_1 : decode cX4_has 1 = .ok (.iconst 1, 1) := by decide +kernel
theorem dX4_has_2 : decode cX4_has 2 = .ok (.if_icmp .lt 15, 3) := by decide +kernel
theorem dX4_has_5 : decode cX4_has 5 = .ok (.iload_n 1, 1) := by decide +kernel
theorem dX4_has_6 : decode cX4_has 6 = .ok (.aload_n 0, 1) := by decide +kernel
theorem dX4_has_7 : decode cX4_has 7 = .ok (.getfield 15, 3) := by decide +kernel
theorem dX4_has_10 : decode cX4_has 10 = .ok (.if_icmp .gt 7, 3) := by decide +kernel
theorem dX4_has_13 : decode cX4_has 13 = .ok (.iconst 1, 1) := by decide +kernel
theorem dX4_has_14 : decode cX4_has 14 = .ok (.goto 4, 3) := by decide +kernel
theorem dX4_has_17 : decode cX4_has 17 = .ok (.iconst 0, 1) := by decide +kernel
theorem dX4_has_18 : decode cX4_has 18 = .ok (.ireturn, 1) := by decide +kernel
theorem dX4_isFull_0 : decode cX4_isFull 0 = .ok (.aload_n 0, 1) := by decide +kernel
theorem dX4_isFull_1 : decode cX4_isFull 1 = .ok (.getfield 15, 3) := by decide +kernel
theorem dX4_isFull_4 : decode cX4_isFull 4 = .ok (.bipush 100, 2) := by decide +kernel
theorem dX4_isFull_6 : decode cX4_isFull 6 = .ok (.if_icmp .lt 7, 3) := by decide +kernel
theorem dX4_isFull_9 : decode cX4_isFull 9 = .ok (.iconst 1, 1) := by decide +kernel
theorem dX4_isFull_10 : decode cX4_isFull 10 = .ok (.goto 4, 3) := by decide +kernel
theorem dX4_isFull_13 : decode cX4_isFull 13 = .ok (.iconst 0, 1) := by decide +kernel
theorem dX4_isFull_14 : decode cX4_isFull 14 = .ok (.ireturn, 1) := by decide +kernel
theorem dX4_at_0 : decode cX4_at 0 = .ok (.iload_n 1, 1) := by decide +kernel
theorem dX4_at_1 : decode cX4_at 1 = .ok (.iconst 1, 1) := by decide +kernel
theorem dX4_at_2 : decode cX4_at 2 = .ok (.if_icmp .lt 22, 3) := by decide +kernel
theorem dX4_at_5 : decode cX4_at 5 = .ok (.iload_n 1, 1) := by decide +kernel
theorem dX4_at_6 : decode cX4_at 6 = .ok (.aload_n 0, 1) := by decide +kernel
theorem dX4_at_7 : decode cX4_at 7 = .ok (.getfield 15, 3) := by decide +kernel
theorem dX4_at_10 : decode cX4_at 10 = .ok (.if_icmp .gt 14, 3) := by decide +kernel
theorem dX4_at_13 : decode cX4_at 13 = .ok (.aload_n 0, 1) := by decide +kernel
theorem dX4_at_14 : decode cX4_at 14 = .ok (.getfield 9, 3) := by decide +kernel
theorem dX4_at_17 : decode cX4_at 17 = .ok (.iload_n 1, 1) := by decide +kernel
theorem dX4_at_18 : decode cX4_at 18 = .ok (.iconst 1, 1) := by decide +kernel
theorem dX4_at_19 : decode cX4_at 19 = .ok (.isub, 1) := by decide +kernel
theorem dX4_at_20 : decode cX4_at 20 = .ok (.iaload, 1) := by decide +kernel
theorem dX4_at_21 : decode cX4_at 21 = .ok (.goto 4, 3) := by decide +kernel
theorem dX4_at_24 : decode cX4_at 24 = .ok (.iconst 0, 1) := by decide +kernel
theorem dX4_at_25 : decode cX4_at 25 = .ok (.ireturn, 1) := by decide +kernel
theorem dX4_put_0 : decode cX4_put 0 = .ok (.iload_n 1, 1) := by decide +kernel
theorem dX4_put_1 : decode cX4_put 1 = .ok (.iconst 1, 1) := by decide +kernel
theorem dX4_put_2 : decode cX4_put 2 = .ok (.if_icmp .lt 19, 3) := by decide +kernel
theorem dX4_put_5 : decode cX4_put 5 = .ok (.iload_n 1, 1) := by decide +kernel
theorem dX4_put_6 : decode cX4_put 6 = .ok (.bipush 100, 2) := by decide +kernel
theorem dX4_put_8 : decode cX4_put 8 = .ok (.if_icmp .gt 13, 3) := by decide +kernel
theorem dX4_put_11 : decode cX4_put 11 = .ok (.iload_n 1, 1) := by decide +kernel
theorem dX4_put_12 : decode cX4_put 12 = .ok (.aload_n 0, 1) := by decide +kernel
theorem dX4_put_13 : decode cX4_put 13 = .ok (.getfield 15, 3) := by decide +kernel
theorem dX4_put_16 : decode cX4_put 16 = .ok (.iconst 1, 1) := by decide +kernel
theorem dX4_put_17 : decode cX4_put 17 = .ok (.iadd, 1) := by decide +kernel
theorem dX4_put_18 : decode cX4_put 18 = .ok (.if_icmp .le 4, 3) := by decide +kernel
theorem dX4_put_21 : decode cX4_put 21 = .ok (.return_, 1) := by decide +kernel
theorem dX4_put_22 : decode cX4_put 22 = .ok (.aload_n 0, 1) := by decide +kernel
theorem dX4_put_23 : decode cX4_put 23 = .ok (.getfield 9, 3) := by decide +kernel
theorem dX4_put_26 : decode cX4_put 26 = .ok (.iload_n 1, 1) := by decide +kernel
theorem dX4_put_27 : decode cX4_put 27 = .ok (.iconst 1, 1) := by decide +kernel
theorem dX4_put_28 : decode cX4_put 28 = .ok (.isub, 1) := by decide +kernel
theorem dX4_put_29 : decode cX4_put 29 = .ok (.iload_n 2, 1) := by decide +kernel
theorem dX4_put_30 : decode cX4_put 30 = .ok (.iastore, 1) := by decide +kernel
theorem dX4_put_31 : decode cX4_put 31 = .ok (.aload_n 0, 1) := by decide +kernel
theorem dX4_put_32 : decode cX4_put 32 = .ok (.aload_n 0, 1) := by decide +kernel
theorem dX4_put_33 : decode cX4_put 33 = .ok (.getfield 15, 3) := by decide +kernel
theorem dX4_put_36 : decode cX4_put 36 = .ok (.iload_n 1, 1) := by decide +kernel
theorem dX4_put_37 : decode cX4_put 37 = .ok (.invokestatic 19, 3) := by decide +kernel
theorem dX4_put_40 : decode cX4_put 40 = .ok (.putfield 15, 3) := by decide +kernel
theorem dX4_put_43 : decode cX4_put 43 = .ok (.return_, 1) := by decide +kernel
theorem dX4_copy_0 : decode cX4_copy 0 = .ok (.aload_n 1, 1) := by decide +kernel
theorem dX4_copy_1 : decode cX4_copy 1 = .ok (.getfield 9, 3) := by decide +kernel
theorem dX4_copy_4 : decode cX4_copy 4 = .ok (.iconst 0, 1) := by decide +kernel
theorem dX4_copy_5 : decode cX4_copy 5 = .ok (.aload_n 0, 1) := by decide +kernel
theorem dX4_copy_6 : decode cX4_copy 6 = .ok (.getfield 9, 3) := by decide +kernel
theorem dX4_copy_9 : decode cX4_copy 9 = .ok (.iconst 0, 1) := by decide +kernel
theorem dX4_copy_10 : decode cX4_copy 10 = .ok (.aload_n 1, 1) := by decide +kernel
theorem dX4_copy_11 : decode cX4_copy 11 = .ok (.getfield 15, 3) := by decide +kernel
theorem dX4_copy_14 : decode cX4_copy 14 = .ok (.invokestatic 25, 3) := by decide +kernel
theorem dX4_copy_17 : decode cX4_copy 17 = .ok (.aload_n 0, 1) := by decide +kernel
theorem dX4_copy_18 : decode cX4_copy 18 = .ok (.aload_n 1, 1) := by decide +kernel
theorem dX4_copy_19 : decode cX4_copy 19 = .ok (.getfield 15, 3) := by decide +kernel
theorem dX4_copy_22 : decode cX4_copy 22 = .ok (.putfield 15, 3) := by decide +kernel
theorem dX4_copy_25 : decode cX4_copy 25 = .ok (.return_, 1) := by decide +kernel
theorem dX4_copyFirst_0 : decode cX4_copyFirst 0 = .ok (.aload_n 1, 1) := by decide +kernel
theorem dX4_copyFirst_1 : decode cX4_copyFirst 1 = .ok (.getfield 9, 3) := by decide +kernel
theorem dX4_copyFirst_4 : decode cX4_copyFirst 4 = .ok (.iconst 0, 1) := by decide +kernel
theorem dX4_copyFirst_5 : decode cX4_copyFirst 5 = .ok (.aload_n 0, 1) := by decide +kernel
theorem dX4_copyFirst_6 : decode cX4_copyFirst 6 = .ok (.getfield 9, 3) := by decide +kernel
theorem dX4_copyFirst_9 : decode cX4_copyFirst 9 = .ok (.iconst 0, 1) := by decide +kernel
theorem dX4_copyFirst_10 : decode cX4_copyFirst 10 = .ok (.iload_n 2, 1) := by decide +kernel
theorem dX4_copyFirst_11 : decode cX4_copyFirst 11 = .ok (.aload_n 1, 1) := by decide +kernel
theorem dX4_copyFirst_12 : decode cX4_copyFirst 12 = .ok (.getfield 15, 3) := by decide +kernel
theorem dX4_copyFirst_15 : decode cX4_copyFirst 15 = .ok (.invokestatic 31, 3) := by decide +kernel
theorem dX4_copyFirst_18 : decode cX4_copyFirst 18 = .ok (.invokestatic 25, 3) := by decide +kernel
theorem dX4_copyFirst_21 : decode cX4_copyFirst 21 = .ok (.return_, 1) := by decide +kernel
theorem dX5_init_0 : decode cX5_init 0 = .ok (.aload_n 0, 1) := by decide +kernel
theorem dX5_init_1 : decode cX5_init 1 = .ok (.invokespecial 1, 3) := by decide +kernel
theorem dX5_init_4 : decode cX5_init 4 = .ok (.aload_n 0, 1) := by decide +kernel
theorem dX5_init_5 : decode cX5_init 5 = .ok (.new 7, 3) := by decide +kernel
theorem dX5_init_8 : decode cX5_init 8 = .ok (.dup, 1) := by decide +kernel
theorem dX5_init_9 : decode cX5_init 9 = .ok (.invokespecial 9, 3) := by decide +kernel
theorem dX5_init_12 : decode cX5_init 12 = .ok (.putfield 10, 3) := by decide +kernel
theorem dX5_init_15 : decode cX5_init 15 = .ok (.return_, 1) := by decide +kernel
theorem dX6_init_0 : decode cX6_init 0 = .ok (.aload_n 0, 1) := by decide +kernel
theorem dX6_init_1 : decode cX6_init 1 = .ok (.invokespecial 3, 3) := by decide +kernel
theorem dX6_init_4 : decode cX6_init 4 = .ok (.aload_n 0, 1) := by decide +kernel
theorem dX6_init_5 : decode cX6_init 5 = .ok (.new 9, 3) := by decide +kernel
theorem dX6_init_8 : decode cX6_init 8 = .ok (.dup, 1) := by decide +kernel
theorem dX6_init_9 : decode cX6_init 9 = .ok (.invokespecial 11, 3) := by decide +kernel
theorem dX6_init_12 : decode cX6_init 12 = .ok (.putfield 12, 3) := by decide +kernel
theorem dX6_init_15 : decode cX6_init 15 = .ok (.aload_n 0, 1) := by decide +kernel
theorem dX6_init_16 : decode cX6_init 16 = .ok (.new 18, 3) := by decide +kernel
theorem dX6_init_19 : decode cX6_init 19 = .ok (.dup, 1) := by decide +kernel
theorem dX6_init_20 : decode cX6_init 20 = .ok (.invokespecial 20, 3) := by decide +kernel
theorem dX6_init_23 : decode cX6_init 23 = .ok (.putfield 21, 3) := by decide +kernel
theorem dX6_init_26 : decode cX6_init 26 = .ok (.aload_n 0, 1) := by decide +kernel
theorem dX6_init_27 : decode cX6_init 27 = .ok (.iconst 0, 1) := by decide +kernel
theorem dX6_init_28 : decode cX6_init 28 = .ok (.putfield 25, 3) := by decide +kernel
theorem dX6_init_31 : decode cX6_init 31 = .ok (.aload_n 0, 1) := by decide +kernel
theorem dX6_init_32 : decode cX6_init 32 = .ok (.new 29, 3) := by decide +kernel
theorem dX6_init_35 : decode cX6_init 35 = .ok (.dup, 1) := by decide +kernel
theorem dX6_init_36 : decode cX6_init 36 = .ok (.iconst 0, 1) := by decide +kernel
theorem dX6_init_37 : decode cX6_init 37 = .ok (.iconst 1, 1) := by decide +kernel
theorem dX6_init_38 : decode cX6_init 38 = .ok (.invokespecial 31, 3) := by decide +kernel
theorem dX6_init_41 : decode cX6_init 41 = .ok (.putfield 34, 3) := by decide +kernel
theorem dX6_init_44 : decode cX6_init 44 = .ok (.aload_n 0, 1) := by decide +kernel
theorem dX6_init_45 : decode cX6_init 45 = .ok (.aload_n 0, 1) := by decide +kernel
theorem dX6_init_46 : decode cX6_init 46 = .ok (.getfield 34, 3) := by decide +kernel
theorem dX6_init_49 : decode cX6_init 49 = .ok (.putfield 38, 3) := by decide +kernel
theorem dX6_init_52 : decode cX6_init 52 = .ok (.aload_n 0, 1) := by decide +kernel
theorem dX6_init_53 : decode cX6_init 53 = .ok (.iload_n 1, 1) := by decide +kernel
theorem dX6_init_54 : decode cX6_init 54 = .ok (.putfield 41, 3) := by decide +kernel
theorem dX6_init_57 : decode cX6_init 57 = .ok (.aload_n 0, 1) := by decide +kernel
theorem dX6_init_58 : decode cX6_init 58 = .ok (.iload_n 2, 1) := by decide +kernel
theorem dX6_init_59 : decode cX6_init 59 = .ok (.putfield 44, 3) := by decide +kernel
theorem dX6_init_62 : decode cX6_init 62 = .ok (.aload_n 0, 1) := by decide +kernel
theorem dX6_init_63 : decode cX6_init 63 = .ok (.aload_n 3, 1) := by decide +kernel
theorem dX6_init_64 : decode cX6_init 64 = .ok (.putfield 47, 3) := by decide +kernel
theorem dX6_init_67 : decode cX6_init 67 = .ok (.aload_n 0, 1) := by decide +kernel
theorem dX6_init_68 : decode cX6_init 68 = .ok (.aload 4, 2) := by decide +kernel
theorem dX6_init_70 : decode cX6_init 70 = .ok (.putfield 51, 3) := by decide +kernel
theorem dX6_init_73 : decode cX6_init 73 = .ok (.aload_n 0, 1) := by decide +kernel
theorem dX6_init_74 : decode cX6_init 74 = .ok (.aload 5, 2) := by decide +kernel
theorem dX6_init_76 : decode cX6_init 76 = .ok (.putfield 55, 3) := by decide +kernel
theorem dX6_init_79 : decode cX6_init 79 = .ok (.aload_n 0, 1) := by decide +kernel
theorem dX6_init_80 : decode cX6_init 80 = .ok (.new 59, 3) := by decide +kernel
theorem dX6_init_83 : decode cX6_init 83 = .ok (.dup, 1) := by decide +kernel
theorem dX6_init_84 : decode cX6_init 84 = .ok (.iload_n 2, 1) := by decide +kernel
theorem dX6_init_85 : decode cX6_init 85 = .ok (.invokespecial 61, 3) := by decide +kernel
theorem dX6_init_88 : decode cX6_init 88 = .ok (.putfield 64, 3) := by decide +kernel
theorem dX6_init_91 : decode cX6_init 91 = .ok (.return_, 1) := by decide +kernel
theorem dX6_leads_0 : decode cX6_leads 0 = .ok (.aload_n 0, 1) := by decide +kernel
theorem dX6_leads_1 : decode cX6_leads 1 = .ok (.getfield 34, 3) := by decide +kernel
theorem dX6_leads_4 : decode cX6_leads 4 = .ok (.getfield 68, 3) := by decide +kernel
theorem dX6_leads_7 : decode cX6_leads 7 = .ok (.aload_n 0, 1) := by decide +kernel
theorem dX6_leads_8 : decode cX6_leads 8 = .ok (.getfield 44, 3) := by decide +kernel
theorem dX6_leads_11 : decode cX6_leads 11 = .ok (.invokestatic 71, 3) := by decide +kernel
theorem dX6_leads_14 : decode cX6_leads 14 = .ok (.aload_n 0, 1) := by decide +kernel
theorem dX6_leads_15 : decode cX6_leads 15 = .ok (.getfield 41, 3) := by decide +kernel
theorem dX6_leads_18 : decode cX6_leads 18 = .ok (.if_icmp .ne 7, 3) := by decide +kernel
theorem dX6_leads_21 : decode cX6_leads 21 = .ok (.iconst 1, 1) := by decide +kernel
theorem dX6_leads_22 : decode cX6_leads 22 = .ok (.goto 4, 3) := by decide +kernel
theorem dX6_leads_25 : decode cX6_leads 25 = .ok (.iconst 0, 1) := by decide +kernel
theorem dX6_leads_26 : decode cX6_leads 26 = .ok (.ireturn, 1) := by decide +kernel
theorem dX6_executed_0 : decode cX6_executed 0 = .ok (.aload_n 0, 1) := by decide +kernel
theorem dX6_executed_1 : decode cX6_executed 1 = .ok (.invokevirtual 77, 3) := by decide +kernel
theorem dX6_executed_4 : decode cX6_executed 4 = .ok (.ifCond .eq 21, 3) := by decide +kernel
theorem dX6_executed_7 : decode cX6_executed 7 = .ok (.aload_n 0, 1) := by decide +kernel
theorem dX6_executed_8 : decode cX6_executed 8 = .ok (.getfield 25, 3) := by decide +kernel
theorem dX6_executed_11 : decode cX6_executed 11 = .ok (.iconst 2, 1) := by decide +kernel
theorem dX6_executed_12 : decode cX6_executed 12 = .ok (.if_icmp .eq 13, 3) := by decide +kernel
theorem dX6_executed_15 : decode cX6_executed 15 = .ok (.aload_n 0, 1) := by decide +kernel
theorem dX6_executed_16 : decode cX6_executed 16 = .ok (.getfield 12, 3) := by decide +kernel
theorem dX6_executed_19 : decode cX6_executed 19 = .ok (.getfield 81, 3) := by decide +kernel
theorem dX6_executed_22 : decode cX6_executed 22 = .ok (.goto 17, 3) := by decide +kernel
theorem dX6_executed_25 : decode cX6_executed 25 = .ok (.aload_n 0, 1) := by decide +kernel
theorem dX6_executed_26 : decode cX6_executed 26 = .ok (.getfield 84, 3) := by decide +kernel
theorem dX6_executed_29 : decode cX6_executed 29 = .ok (.aload_n 0, 1) := by decide +kernel
theorem dX6_executed_30 : decode cX6_executed 30 = .ok (.getfield 12, 3) := by decide +kernel
theorem dX6_executed_33 : decode cX6_executed 33 = .ok (.getfield 81, 3) := by decide +kernel
theorem dX6_executed_36 : decode cX6_executed 36 = .ok (.invokestatic 87, 3) := by decide +kernel
theorem dX6_executed_39 : decode cX6_executed 39 = .ok (.ireturn, 1) := by decide +kernel
theorem dX6_forget_0 : decode cX6_forget 0 = .ok (.aload_n 0, 1) := by decide +kernel
theorem dX6_forget_1 : decode cX6_forget 1 = .ok (.getfield 21, 3) := by decide +kernel
theorem dX6_forget_4 : decode cX6_forget 4 = .ok (.iconst 0, 1) := by decide +kernel
theorem dX6_forget_5 : decode cX6_forget 5 = .ok (.putfield 90, 3) := by decide +kernel
theorem dX6_forget_8 : decode cX6_forget 8 = .ok (.aload_n 0, 1) := by decide +kernel
theorem dX6_forget_9 : decode cX6_forget 9 = .ok (.getfield 64, 3) := by decide +kernel
theorem dX6_forget_12 : decode cX6_forget 12 = .ok (.invokevirtual 91, 3) := by decide +kernel
theorem dX6_forget_15 : decode cX6_forget 15 = .ok (.return_, 1) := by decide +kernel
theorem dX6_turnTo_0 : decode cX6_turnTo 0 = .ok (.aload_n 0, 1) := by decide +kernel
theorem dX6_turnTo_1 : decode cX6_turnTo 1 = .ok (.aload_n 1, 1) := by decide +kernel
theorem dX6_turnTo_2 : decode cX6_turnTo 2 = .ok (.putfield 34, 3) := by decide +kernel
theorem dX6_turnTo_5 : decode cX6_turnTo 5 = .ok (.aload_n 0, 1) := by decide +kernel
theorem dX6_turnTo_6 : decode cX6_turnTo 6 = .ok (.iconst 2, 1) := by decide +kernel
theorem dX6_turnTo_7 : decode cX6_turnTo 7 = .ok (.putfield 25, 3) := by decide +kernel
theorem dX6_turnTo_10 : decode cX6_turnTo 10 = .ok (.aload_n 0, 1) := by decide +kernel
theorem dX6_turnTo_11 : decode cX6_turnTo 11 = .ok (.invokevirtual 94, 3) := by decide +kernel
theorem dX6_turnTo_14 : decode cX6_turnTo 14 = .ok (.aload_n 0, 1) := by decide +kernel
theorem dX6_turnTo_15 : decode cX6_turnTo 15 = .ok (.iconst 0, 1) := by decide +kernel
theorem dX6_turnTo_16 : decode cX6_turnTo 16 = .ok (.putfield 97, 3) := by decide +kernel
theorem dX6_turnTo_19 : decode cX6_turnTo 19 = .ok (.aload_n 0, 1) := by decide +kernel
theorem dX6_turnTo_20 : decode cX6_turnTo 20 = .ok (.invokevirtual 100, 3) := by decide +kernel
theorem dX6_turnTo_23 : decode cX6_turnTo 23 = .ok (.return_, 1) := by decide +kernel
theorem dX6_askAgain_0 : decode cX6_askAgain 0 = .ok (.aload_n 0, 1) := by decide +kernel
theorem dX6_askAgain_1 : decode cX6_askAgain 1 = .ok (.getfield 25, 3) := by decide +kernel
theorem dX6_askAgain_4 : decode cX6_askAgain 4 = .ok (.iconst 1, 1) := by decide +kernel
theorem dX6_askAgain_5 : decode cX6_askAgain 5 = .ok (.if_icmp .ne 18, 3) := by decide +kernel
theorem dX6_askAgain_8 : decode cX6_askAgain 8 = .ok (.aload_n 0, 1) := by decide +kernel
theorem dX6_askAgain_9 : decode cX6_askAgain 9 = .ok (.iconst 3, 1) := by decide +kernel
theorem dX6_askAgain_10 : decode cX6_askAgain 10 = .ok (.aload_n 0, 1) := by decide +kernel
theorem dX6_askAgain_11 : decode cX6_askAgain 11 = .ok (.getfield 12, 3) := by decide +kernel
theorem dX6_askAgain_14 : decode cX6_askAgain 14 = .ok (.getfield 81, 3) := by decide +kernel
theorem dX6_askAgain_17 : decode cX6_askAgain 17 = .ok (.invokevirtual 103, 3) := by decide +kernel
theorem dX6_askAgain_20 : decode cX6_askAgain 20 = .ok (.goto 61, 3) := by decide +kernel
theorem dX6_askAgain_23 : decode cX6_askAgain 23 = .ok (.aload_n 0, 1) := by decide +kernel
theorem dX6_askAgain_24 : decode cX6_askAgain 24 = .ok (.getfield 25, 3) := by decide +kernel
theorem dX6_askAgain_27 : decode cX6_askAgain 27 = .ok (.iconst 2, 1) := by decide +kernel
theorem dX6_askAgain_28 : decode cX6_askAgain 28 = .ok (.if_icmp .ne 10, 3) := by decide +kernel
theorem dX6_askAgain_31 : decode cX6_askAgain 31 = .ok (.aload_n 0, 1) := by decide +kernel
theorem dX6_askAgain_32 : decode cX6_askAgain 32 = .ok (.invokevirtual 100, 3) := by decide +kernel
theorem dX6_askAgain_35 : decode cX6_askAgain 35 = .ok (.goto 46, 3) := by decide +kernel
theorem dX6_askAgain_38 : decode cX6_askAgain 38 = .ok (.aload_n 0, 1) := by decide +kernel
theorem dX6_askAgain_39 : decode cX6_askAgain 39 = .ok (.invokevirtual 77, 3) := by decide +kernel
theorem dX6_askAgain_42 : decode cX6_askAgain 42 = .ok (.ifCond .ne 39, 3) := by decide +kernel
theorem dX6_askAgain_45 : decode cX6_askAgain 45 = .ok (.aload_n 0, 1) := by decide +kernel
theorem dX6_askAgain_46 : decode cX6_askAgain 46 = .ok (.getfield 21, 3) := by decide +kernel
theorem dX6_askAgain_49 : decode cX6_askAgain 49 = .ok (.getfield 90, 3) := by decide +kernel
theorem dX6_askAgain_52 : decode cX6_askAgain 52 = .ok (.ifCond .le 29, 3) := by decide +kernel
theorem dX6_askAgain_55 : decode cX6_askAgain 55 = .ok (.aload_n 0, 1) := by decide +kernel
theorem dX6_askAgain_56 : decode cX6_askAgain 56 = .ok (.iconst 1, 1) := by decide +kernel
theorem dX6_askAgain_57 : decode cX6_askAgain 57 = .ok (.aload_n 0, 1) := by decide +kernel
theorem dX6_askAgain_58 : decode cX6_askAgain 58 = .ok (.getfield 34, 3) := by decide +kernel
theorem dX6_askAgain_61 : decode cX6_askAgain 61 = .ok (.aload_n 0, 1) := by decide +kernel
theorem dX6_askAgain_62 : decode cX6_askAgain 62 = .ok (.getfield 44, 3) := by decide +kernel
theorem dX6_askAgain_65 : decode cX6_askAgain 65 = .ok (.invokevirtual 106, 3) := by decide +kernel
theorem dX6_askAgain_68 : decode cX6_askAgain 68 = .ok (.aload_n 0, 1) := by decide +kernel
theorem dX6_askAgain_69 : decode cX6_askAgain 69 = .ok (.getfield 12, 3) := by decide +kernel
theorem dX6_askAgain_72 : decode cX6_askAgain 72 = .ok (.getfield 81, 3) := by decide +kernel
theorem dX6_askAgain_75 : decode cX6_askAgain 75 = .ok (.iconst 1, 1) := by decide +kernel
theorem dX6_askAgain_76 : decode cX6_askAgain 76 = .ok (.iadd, 1) := by decide +kernel
theorem dX6_askAgain_77 : decode cX6_askAgain 77 = .ok (.invokevirtual 110, 3) := by decide +kernel
theorem dX6_askAgain_80 : decode cX6_askAgain 80 = .ok (.pop, 1) := by decide +kernel
theorem dX6_askAgain_81 : decode cX6_askAgain 81 = .ok (.return_, 1) := by decide +kernel
theorem dX6_receiveStamped_0 : decode cX6_receiveStamped 0 = .ok (.aload_n 1, 1) := by decide +kernel
theorem dX6_receiveStamped_1 : decode cX6_receiveStamped 1 = .ok (.getfield 114, 3) := by decide +kernel
theorem dX6_receiveStamped_4 : decode cX6_receiveStamped 4 = .ok (.aload_n 0, 1) := by decide +kernel
theorem dX6_receiveStamped_5 : decode cX6_receiveStamped 5 = .ok (.getfield 34, 3) := by decide +kernel
theorem dX6_receiveStamped_8 : decode cX6_receiveStamped 8 = .ok (.getfield 119, 3) := by decide +kernel
theorem dX6_receiveStamped_11 : decode cX6_receiveStamped 11 = .ok (.if_icmp .le 26, 3) := by decide +kernel
theorem dX6_receiveStamped_14 : decode cX6_receiveStamped 14 = .ok (.aload_n 0, 1) := by decide +kernel
theorem dX6_receiveStamped_15 : decode cX6_receiveStamped 15 = .ok (.new 29, 3) := by decide +kernel
theorem dX6_receiveStamped_18 : decode cX6_receiveStamped 18 = .ok (.dup, 1) := by decide +kernel
theorem dX6_receiveStamped_19 : decode cX6_receiveStamped 19 = .ok (.aload_n 0, 1) := by decide +kernel
theorem dX6_receiveStamped_20 : decode cX6_receiveStamped 20 = .ok (.getfield 34, 3) := by decide +kernel
theorem dX6_receiveStamped_23 : decode cX6_receiveStamped 23 = .ok (.getfield 68, 3) := by decide +kernel
theorem dX6_receiveStamped_26 : decode cX6_receiveStamped 26 = .ok (.aload_n 1, 1) := by decide +kernel
theorem dX6_receiveStamped_27 : decode cX6_receiveStamped 27 = .ok (.getfield 114, 3) := by decide +kernel
theorem dX6_receiveStamped_30 : decode cX6_receiveStamped 30 = .ok (.invokespecial 31, 3) := by decide +kernel
theorem dX6_receiveStamped_33 : decode cX6_receiveStamped 33 = .ok (.invokevirtual 120, 3) := by decide +kernel
theorem dX6_receiveStamped_36 : decode cX6_receiveStamped 36 = .ok (.return_, 1) := by decide +kernel
theorem dX6_receiveStamped_37 : decode cX6_receiveStamped 37 = .ok (.aload_n 0, 1) := by decide +kernel
theorem dX6_receiveStamped_38 : decode cX6_receiveStamped 38 = .ok (.getfield 124, 3) := by decide +kernel
theorem dX6_receiveStamped_41 : decode cX6_receiveStamped 41 = .ok (.aload_n 1, 1) := by decide +kernel
theorem dX6_receiveStamped_42 : decode cX6_receiveStamped 42 = .ok (.getfield 127, 3) := by decide +kernel
theorem dX6_receiveStamped_45 : decode cX6_receiveStamped 45 = .ok (.iadd, 1) := by decide +kernel
theorem dX6_receiveStamped_46 : decode cX6_receiveStamped 46 = .ok (.istore_n 2, 1) := by decide +kernel
theorem dX6_receiveStamped_47 : decode cX6_receiveStamped 47 = .ok (.aload_n 1, 1) := by decide +kernel
theorem dX6_receiveStamped_48 : decode cX6_receiveStamped 48 = .ok (.getfield 114, 3) := by decide +kernel
theorem dX6_receiveStamped_51 : decode cX6_receiveStamped 51 = .ok (.aload_n 0, 1) := by decide +kernel
theorem dX6_receiveStamped_52 : decode cX6_receiveStamped 52 = .ok (.getfield 34, 3) := by decide +kernel
theorem dX6_receiveStamped_55 : decode cX6_receiveStamped 55 = .ok (.getfield 119, 3) := by decide +kernel
theorem dX6_receiveStamped_58 : decode cX6_receiveStamped 58 = .ok (.if_icmp .lt 45, 3) := by decide +kernel
theorem dX6_receiveStamped_61 : decode cX6_receiveStamped 61 = .ok (.aload_n 0, 1) := by decide +kernel
theorem dX6_receiveStamped_62 : decode cX6_receiveStamped 62 = .ok (.getfield 25, 3) := by decide +kernel
theorem dX6_receiveStamped_65 : decode cX6_receiveStamped 65 = .ok (.iconst 2, 1) := by decide +kernel
theorem dX6_receiveStamped_66 : decode cX6_receiveStamped 66 = .ok (.if_icmp .eq 37, 3) := by decide +kernel
theorem dX6_receiveStamped_69 : decode cX6_receiveStamped 69 = .ok (.iload_n 2, 1) := by decide +kernel
theorem dX6_receiveStamped_70 : decode cX6_receiveStamped 70 = .ok (.aload_n 0, 1) := by decide +kernel
theorem dX6_receiveStamped_71 : decode cX6_receiveStamped 71 = .ok (.getfield 12, 3) := by decide +kernel
theorem dX6_receiveStamped_74 : decode cX6_receiveStamped 74 = .ok (.getfield 81, 3) := by decide +kernel
theorem dX6_receiveStamped_77 : decode cX6_receiveStamped 77 = .ok (.if_icmp .le 26, 3) := by decide +kernel
theorem dX6_receiveStamped_80 : decode cX6_receiveStamped 80 = .ok (.aload_n 0, 1) := by decide +kernel
theorem dX6_receiveStamped_81 : decode cX6_receiveStamped 81 = .ok (.getfield 21, 3) := by decide +kernel
theorem dX6_receiveStamped_84 : decode cX6_receiveStamped 84 = .ok (.iload_n 2, 1) := by decide +kernel
theorem dX6_receiveStamped_85 : decode cX6_receiveStamped 85 = .ok (.invokevirtual 130, 3) := by decide +kernel
theorem dX6_receiveStamped_88 : decode cX6_receiveStamped 88 = .ok (.ifCond .ne 15, 3) := by decide +kernel
theorem dX6_receiveStamped_91 : decode cX6_receiveStamped 91 = .ok (.aload_n 0, 1) := by decide +kernel
theorem dX6_receiveStamped_92 : decode cX6_receiveStamped 92 = .ok (.getfield 21, 3) := by decide +kernel
theorem dX6_receiveStamped_95 : decode cX6_receiveStamped 95 = .ok (.getfield 90, 3) := by decide +kernel
theorem dX6_receiveStamped_98 : decode cX6_receiveStamped 98 = .ok (.bipush 8, 2) := by decide +kernel
theorem dX6_receiveStamped_100 : decode cX6_receiveStamped 100 = .ok (.if_icmp .lt 4, 3) := by decide +kernel
theorem dX6_receiveStamped_103 : decode cX6_receiveStamped 103 = .ok (.return_, 1) := by decide +kernel
theorem dX6_receiveStamped_104 : decode cX6_receiveStamped 104 = .ok (.aload_n 0, 1) := by decide +kernel
theorem dX6_receiveStamped_105 : decode cX6_receiveStamped 105 = .ok (.getfield 21, 3) := by decide +kernel
theorem dX6_receiveStamped_108 : decode cX6_receiveStamped 108 = .ok (.iload_n 2, 1) := by decide +kernel
theorem dX6_receiveStamped_109 : decode cX6_receiveStamped 109 = .ok (.aload_n 1, 1) := by decide +kernel
theorem dX6_receiveStamped_110 : decode cX6_receiveStamped 110 = .ok (.getfield 134, 3) := by decide +kernel
theorem dX6_receiveStamped_113 : decode cX6_receiveStamped 113 = .ok (.invokevirtual 137, 3) := by decide +kernel
theorem dX6_receiveStamped_116 : decode cX6_receiveStamped 116 = .ok (.aload_n 0, 1) := by decide +kernel
theorem dX6_receiveStamped_117 : decode cX6_receiveStamped 117 = .ok (.getfield 25, 3) := by decide +kernel
theorem dX6_receiveStamped_120 : decode cX6_receiveStamped 120 = .ok (.ifCond .ne 7, 3) := by decide +kernel
theorem dX6_receiveStamped_123 : decode cX6_receiveStamped 123 = .ok (.aload_n 0, 1) := by decide +kernel
theorem dX6_receiveStamped_124 : decode cX6_receiveStamped 124 = .ok (.invokevirtual 140, 3) := by decide +kernel
theorem dX6_receiveStamped_127 : decode cX6_receiveStamped 127 = .ok (.return_, 1) := by decide +kernel
theorem dX6_receiveOfAnyView_0 : decode cX6_receiveOfAnyView 0 = .ok (.aload_n 1, 1) := by decide +kernel
theorem dX6_receiveOfAnyView_1 : decode cX6_receiveOfAnyView 1 = .ok (.getfield 143, 3) := by decide +kernel
theorem dX6_receiveOfAnyView_4 : decode cX6_receiveOfAnyView 4 = .ok (.bipush 10, 2) := by decide +kernel
theorem dX6_receiveOfAnyView_6 : decode cX6_receiveOfAnyView 6 = .ok (.if_icmp .ne 9, 3) := by decide +kernel
theorem dX6_receiveOfAnyView_9 : decode cX6_receiveOfAnyView 9 = .ok (.aload_n 0, 1) := by decide +kernel
theorem dX6_receiveOfAnyView_10 : decode cX6_receiveOfAnyView 10 = .ok (.aload_n 1, 1) := by decide +kernel
theorem dX6_receiveOfAnyView_11 : decode cX6_receiveOfAnyView 11 = .ok (.invokevirtual 146, 3) := by decide +kernel
theorem dX6_receiveOfAnyView_14 : decode cX6_receiveOfAnyView 14 = .ok (.return_, 1) := by decide +kernel
theorem dX6_receiveOfAnyView_15 : decode cX6_receiveOfAnyView 15 = .ok (.aload_n 1, 1) := by decide +kernel
theorem dX6_receiveOfAnyView_16 : decode cX6_receiveOfAnyView 16 = .ok (.getfield 150, 3) := by decide +kernel
theorem dX6_receiveOfAnyView_19 : decode cX6_receiveOfAnyView 19 = .ok (.aload_n 0, 1) := by decide +kernel
theorem dX6_receiveOfAnyView_20 : decode cX6_receiveOfAnyView 20 = .ok (.getfield 34, 3) := by decide +kernel
theorem dX6_receiveOfAnyView_23 : decode cX6_receiveOfAnyView 23 = .ok (.invokevirtual 151, 3) := by decide +kernel
theorem dX6_receiveOfAnyView_26 : decode cX6_receiveOfAnyView 26 = .ok (.ifCond .ne 32, 3) := by decide +kernel
theorem dX6_receiveOfAnyView_29 : decode cX6_receiveOfAnyView 29 = .ok (.aload_n 1, 1) := by decide +kernel
theorem dX6_receiveOfAnyView_30 : decode cX6_receiveOfAnyView 30 = .ok (.getfield 150, 3) := by decide +kernel
theorem dX6_receiveOfAnyView_33 : decode cX6_receiveOfAnyView 33 = .ok (.aload_n 0, 1) := by decide +kernel
theorem dX6_receiveOfAnyView_34 : decode cX6_receiveOfAnyView 34 = .ok (.getfield 34, 3) := by decide +kernel
theorem dX6_receiveOfAnyView_37 : decode cX6_receiveOfAnyView 37 = .ok (.invokevirtual 155, 3) := by decide +kernel
theorem dX6_receiveOfAnyView_40 : decode cX6_receiveOfAnyView 40 = .ok (.ifCond .ne 18, 3) := by decide +kernel
theorem dX6_receiveOfAnyView_43 : decode cX6_receiveOfAnyView 43 = .ok (.aload_n 0, 1) := by decide +kernel
theorem dX6_receiveOfAnyView_44 : decode cX6_receiveOfAnyView 44 = .ok (.aload_n 0, 1) := by decide +kernel
theorem dX6_receiveOfAnyView_45 : decode cX6_receiveOfAnyView 45 = .ok (.getfield 34, 3) := by decide +kernel
theorem dX6_receiveOfAnyView_48 : decode cX6_receiveOfAnyView 48 = .ok (.aload_n 1, 1) := by decide +kernel
theorem dX6_receiveOfAnyView_49 : decode cX6_receiveOfAnyView 49 = .ok (.getfield 150, 3) := by decide +kernel
theorem dX6_receiveOfAnyView_52 : decode cX6_receiveOfAnyView 52 = .ok (.invokevirtual 158, 3) := by decide +kernel
theorem dX6_receiveOfAnyView_55 : decode cX6_receiveOfAnyView 55 = .ok (.invokevirtual 120, 3) := by decide +kernel
theorem dX6_receiveOfAnyView_58 : decode cX6_receiveOfAnyView 58 = .ok (.aload_n 1, 1) := by decide +kernel
theorem dX6_receiveOfAnyView_59 : decode cX6_receiveOfAnyView 59 = .ok (.getfield 143, 3) := by decide +kernel
theorem dX6_receiveOfAnyView_62 : decode cX6_receiveOfAnyView 62 = .ok (.bipush 9, 2) := by decide +kernel
theorem dX6_receiveOfAnyView_64 : decode cX6_receiveOfAnyView 64 = .ok (.if_icmp .ne 29, 3) := by decide +kernel
theorem dX6_receiveOfAnyView_67 : decode cX6_receiveOfAnyView 67 = .ok (.aload_n 1, 1) := by decide +kernel
theorem dX6_receiveOfAnyView_68 : decode cX6_receiveOfAnyView 68 = .ok (.getfield 150, 3) := by decide +kernel
theorem dX6_receiveOfAnyView_71 : decode cX6_receiveOfAnyView 71 = .ok (.aload_n 0, 1) := by decide +kernel
theorem dX6_receiveOfAnyView_72 : decode cX6_receiveOfAnyView 72 = .ok (.getfield 34, 3) := by decide +kernel
theorem dX6_receiveOfAnyView_75 : decode cX6_receiveOfAnyView 75 = .ok (.invokevirtual 151, 3) := by decide +kernel
theorem dX6_receiveOfAnyView_78 : decode cX6_receiveOfAnyView 78 = .ok (.ifCond .eq 15, 3) := by decide +kernel
theorem dX6_receiveOfAnyView_81 : decode cX6_receiveOfAnyView 81 = .ok (.aload_n 0, 1) := by decide +kernel
theorem dX6_receiveOfAnyView_82 : decode cX6_receiveOfAnyView 82 = .ok (.invokevirtual 77, 3) := by decide +kernel
theorem dX6_receiveOfAnyView_85 : decode cX6_receiveOfAnyView 85 = .ok (.ifCond .eq 8, 3) := by decide +kernel
theorem dX6_receiveOfAnyView_88 : decode cX6_receiveOfAnyView 88 = .ok (.aload_n 0, 1) := by decide +kernel
theorem dX6_receiveOfAnyView_89 : decode cX6_receiveOfAnyView 89 = .ok (.aload_n 1, 1) := by decide +kernel
theorem dX6_receiveOfAnyView_90 : decode cX6_receiveOfAnyView 90 = .ok (.invokevirtual 162, 3) := by decide +kernel
theorem dX6_receiveOfAnyView_93 : decode cX6_receiveOfAnyView 93 = .ok (.return_, 1) := by decide +kernel
theorem dX6_receiveOfItsView_0 : decode cX6_receiveOfItsView 0 = .ok (.aload_n 1, 1) := by decide +kernel
theorem dX6_receiveOfItsView_1 : decode cX6_receiveOfItsView 1 = .ok (.getfield 143, 3) := by decide +kernel
theorem dX6_receiveOfItsView_4 : decode cX6_receiveOfItsView 4 = .ok (.tableswitch 134 1 7 #[44, 59, 74, 85, 100, 108, 123], 44) := by decide +kernel
theorem dX6_receiveOfItsView_48 : decode cX6_receiveOfItsView 48 = .ok (.aload_n 0, 1) := by decide +kernel
theorem dX6_receiveOfItsView_49 : decode cX6_receiveOfItsView 49 = .ok (.aload_n 1, 1) := by decide +kernel
theorem dX6_receiveOfItsView_50 : decode cX6_receiveOfItsView 50 = .ok (.getfield 165, 3) := by decide +kernel
theorem dX6_receiveOfItsView_53 : decode cX6_receiveOfItsView 53 = .ok (.aload_n 1, 1) := by decide +kernel
theorem dX6_receiveOfItsView_54 : decode cX6_receiveOfItsView 54 = .ok (.getfield 127, 3) := by decide +kernel
theorem dX6_receiveOfItsView_57 : decode cX6_receiveOfItsView 57 = .ok (.invokevirtual 168, 3) := by decide +kernel
theorem dX6_receiveOfItsView_60 : decode cX6_receiveOfItsView 60 = .ok (.goto 78, 3) := by decide +kernel
theorem dX6_receiveOfItsView_63 : decode cX6_receiveOfItsView 63 = .ok (.aload_n 0, 1) := by decide +kernel
theorem dX6_receiveOfItsView_64 : decode cX6_receiveOfItsView 64 = .ok (.aload_n 1, 1) := by decide +kernel
theorem dX6_receiveOfItsView_65 : decode cX6_receiveOfItsView 65 = .ok (.getfield 127, 3) := by decide +kernel
theorem dX6_receiveOfItsView_68 : decode cX6_receiveOfItsView 68 = .ok (.aload_n 1, 1) := by decide +kernel
theorem dX6_receiveOfItsView_69 : decode cX6_receiveOfItsView 69 = .ok (.getfield 134, 3) := by decide +kernel
theorem dX6_receiveOfItsView_72 : decode cX6_receiveOfItsView 72 = .ok (.invokevirtual 171, 3) := by decide +kernel
theorem dX6_receiveOfItsView_75 : decode cX6_receiveOfItsView 75 = .ok (.goto 63, 3) := by decide +kernel
theorem dX6_receiveOfItsView_78 : decode cX6_receiveOfItsView 78 = .ok (.aload_n 0, 1) := by decide +kernel
theorem dX6_receiveOfItsView_79 : decode cX6_receiveOfItsView 79 = .ok (.aload_n 1, 1) := by decide +kernel
theorem dX6_receiveOfItsView_80 : decode cX6_receiveOfItsView 80 = .ok (.getfield 127, 3) := by decide +kernel
theorem dX6_receiveOfItsView_83 : decode cX6_receiveOfItsView 83 = .ok (.invokevirtual 174, 3) := by decide +kernel
theorem dX6_receiveOfItsView_86 : decode cX6_receiveOfItsView 86 = .ok (.goto 52, 3) := by decide +kernel
theorem dX6_receiveOfItsView_89 : decode cX6_receiveOfItsView 89 = .ok (.aload_n 0, 1) := by decide +kernel
theorem dX6_receiveOfItsView_90 : decode cX6_receiveOfItsView 90 = .ok (.aload_n 1, 1) := by decide +kernel
theorem dX6_receiveOfItsView_91 : decode cX6_receiveOfItsView 91 = .ok (.getfield 165, 3) := by decide +kernel
theorem dX6_receiveOfItsView_94 : decode cX6_receiveOfItsView 94 = .ok (.aload_n 1, 1) := by decide +kernel
theorem dX6_receiveOfItsView_95 : decode cX6_receiveOfItsView 95 = .ok (.getfield 127, 3) := by decide +kernel
theorem dX6_receiveOfItsView_98 : decode cX6_receiveOfItsView 98 = .ok (.invokevirtual 177, 3) := by decide +kernel
theorem dX6_receiveOfItsView_101 : decode cX6_receiveOfItsView 101 = .ok (.goto 37, 3) := by decide +kernel
theorem dX6_receiveOfItsView_104 : decode cX6_receiveOfItsView 104 = .ok (.aload_n 0, 1) := by decide +kernel
theorem dX6_receiveOfItsView_105 : decode cX6_receiveOfItsView 105 = .ok (.aload_n 1, 1) := by decide +kernel
theorem dX6_receiveOfItsView_106 : decode cX6_receiveOfItsView 106 = .ok (.invokevirtual 180, 3) := by decide +kernel
theorem dX6_receiveOfItsView_109 : decode cX6_receiveOfItsView 109 = .ok (.goto 29, 3) := by decide +kernel
theorem dX6_receiveOfItsView_112 : decode cX6_receiveOfItsView 112 = .ok (.aload_n 0, 1) := by decide +kernel
theorem dX6_receiveOfItsView_113 : decode cX6_receiveOfItsView 113 = .ok (.aload_n 1, 1) := by decide +kernel
theorem dX6_receiveOfItsView_114 : decode cX6_receiveOfItsView 114 = .ok (.getfield 165, 3) := by decide +kernel
theorem dX6_receiveOfItsView_117 : decode cX6_receiveOfItsView 117 = .ok (.aload_n 1, 1) := by decide +kernel
theorem dX6_receiveOfItsView_118 : decode cX6_receiveOfItsView 118 = .ok (.getfield 127, 3) := by decide +kernel
theorem dX6_receiveOfItsView_121 : decode cX6_receiveOfItsView 121 = .ok (.invokevirtual 183, 3) := by decide +kernel
theorem dX6_receiveOfItsView_124 : decode cX6_receiveOfItsView 124 = .ok (.goto 14, 3) := by decide +kernel
theorem dX6_receiveOfItsView_127 : decode cX6_receiveOfItsView 127 = .ok (.aload_n 0, 1) := by decide +kernel
theorem dX6_receiveOfItsView_128 : decode cX6_receiveOfItsView 128 = .ok (.aload_n 1, 1) := by decide +kernel
theorem dX6_receiveOfItsView_129 : decode cX6_receiveOfItsView 129 = .ok (.getfield 127, 3) := by decide +kernel
theorem dX6_receiveOfItsView_132 : decode cX6_receiveOfItsView 132 = .ok (.invokevirtual 186, 3) := by decide +kernel
theorem dX6_receiveOfItsView_135 : decode cX6_receiveOfItsView 135 = .ok (.goto 3, 3) := by decide +kernel
theorem dX6_receiveOfItsView_138 : decode cX6_receiveOfItsView 138 = .ok (.return_, 1) := by decide +kernel
theorem dX6_receiveLookup_0 : decode cX6_receiveLookup 0 = .ok (.aload_n 0, 1) := by decide +kernel
theorem dX6_receiveLookup_1 : decode cX6_receiveLookup 1 = .ok (.invokevirtual 77, 3) := by decide +kernel
theorem dX6_receiveLookup_4 : decode cX6_receiveLookup 4 = .ok (.ifCond .eq 22, 3) := by decide +kernel
theorem dX6_receiveLookup_7 : decode cX6_receiveLookup 7 = .ok (.aload_n 0, 1) := by decide +kernel
theorem dX6_receiveLookup_8 : decode cX6_receiveLookup 8 = .ok (.getfield 25, 3) := by decide +kernel
theorem dX6_receiveLookup_11 : decode cX6_receiveLookup 11 = .ok (.iconst 2, 1) := by decide +kernel
theorem dX6_receiveLookup_12 : decode cX6_receiveLookup 12 = .ok (.if_icmp .eq 14, 3) := by decide +kernel
theorem dX6_receiveLookup_15 : decode cX6_receiveLookup 15 = .ok (.aload_n 0, 1) := by decide +kernel
theorem dX6_receiveLookup_16 : decode cX6_receiveLookup 16 = .ok (.getfield 12, 3) := by decide +kernel
theorem dX6_receiveLookup_19 : decode cX6_receiveLookup 19 = .ok (.iload_n 2, 1) := by decide +kernel
theorem dX6_receiveLookup_20 : decode cX6_receiveLookup 20 = .ok (.invokevirtual 189, 3) := by decide +kernel
theorem dX6_receiveLookup_23 : decode cX6_receiveLookup 23 = .ok (.ifCond .ne 4, 3) := by decide +kernel
theorem dX6_receiveLookup_26 : decode cX6_receiveLookup 26 = .ok (.return_, 1) := by decide +kernel
theorem dX6_receiveLookup_27 : decode cX6_receiveLookup 27 = .ok (.aload_n 0, 1) := by decide +kernel
theorem dX6_receiveLookup_28 : decode cX6_receiveLookup 28 = .ok (.getfield 12, 3) := by decide +kernel
theorem dX6_receiveLookup_31 : decode cX6_receiveLookup 31 = .ok (.iload_n 2, 1) := by decide +kernel
theorem dX6_receiveLookup_32 : decode cX6_receiveLookup 32 = .ok (.invokevirtual 190, 3) := by decide +kernel
theorem dX6_receiveLookup_35 : decode cX6_receiveLookup 35 = .ok (.ifCond .ne 14, 3) := by decide +kernel
theorem dX6_receiveLookup_38 : decode cX6_receiveLookup 38 = .ok (.aload_n 0, 1) := by decide +kernel
theorem dX6_receiveLookup_39 : decode cX6_receiveLookup 39 = .ok (.iconst 3, 1) := by decide +kernel
theorem dX6_receiveLookup_40 : decode cX6_receiveLookup 40 = .ok (.iload_n 1, 1) := by decide +kernel
theorem dX6_receiveLookup_41 : decode cX6_receiveLookup 41 = .ok (.iload_n 2, 1) := by decide +kernel
theorem dX6_receiveLookup_42 : decode cX6_receiveLookup 42 = .ok (.invokevirtual 110, 3) := by decide +kernel
theorem dX6_receiveLookup_45 : decode cX6_receiveLookup 45 = .ok (.pop, 1) := by decide +kernel
theorem dX6_receiveLookup_46 : decode cX6_receiveLookup 46 = .ok (.goto 21, 3) := by decide +kernel
theorem dX6_receiveLookup_49 : decode cX6_receiveLookup 49 = .ok (.aload_n 0, 1) := by decide +kernel
theorem dX6_receiveLookup_50 : decode cX6_receiveLookup 50 = .ok (.iconst 2, 1) := by decide +kernel
theorem dX6_receiveLookup_51 : decode cX6_receiveLookup 51 = .ok (.iload_n 1, 1) := by decide +kernel
theorem dX6_receiveLookup_52 : decode cX6_receiveLookup 52 = .ok (.iload_n 2, 1) := by decide +kernel
theorem dX6_receiveLookup_53 : decode cX6_receiveLookup 53 = .ok (.invokevirtual 110, 3) := by decide +kernel
theorem dX6_receiveLookup_56 : decode cX6_receiveLookup 56 = .ok (.aload_n 0, 1) := by decide +kernel
theorem dX6_receiveLookup_57 : decode cX6_receiveLookup 57 = .ok (.getfield 12, 3) := by decide +kernel
theorem dX6_receiveLookup_60 : decode cX6_receiveLookup 60 = .ok (.iload_n 2, 1) := by decide +kernel
theorem dX6_receiveLookup_61 : decode cX6_receiveLookup 61 = .ok (.invokevirtual 190, 3) := by decide +kernel
theorem dX6_receiveLookup_64 : decode cX6_receiveLookup 64 = .ok (.putfield 134, 3) := by decide +kernel
theorem dX6_receiveLookup_67 : decode cX6_receiveLookup 67 = .ok (.return_, 1) := by decide +kernel
theorem dX6_receiveFound_0 : decode cX6_receiveFound 0 = .ok (.aload_n 0, 1) := by decide +kernel
theorem dX6_receiveFound_1 : decode cX6_receiveFound 1 = .ok (.getfield 25, 3) := by decide +kernel
theorem dX6_receiveFound_4 : decode cX6_receiveFound 4 = .ok (.ifCond .ne 29, 3) := by decide +kernel
theorem dX6_receiveFound_7 : decode cX6_receiveFound 7 = .ok (.iload_n 1, 1) := by decide +kernel
theorem dX6_receiveFound_8 : decode cX6_receiveFound 8 = .ok (.aload_n 0, 1) := by decide +kernel
theorem dX6_receiveFound_9 : decode cX6_receiveFound 9 = .ok (.getfield 12, 3) := by decide +kernel
theorem dX6_receiveFound_12 : decode cX6_receiveFound 12 = .ok (.getfield 81, 3) := by decide +kernel
theorem dX6_receiveFound_15 : decode cX6_receiveFound 15 = .ok (.iconst 1, 1) := by decide +kernel
theorem dX6_receiveFound_16 : decode cX6_receiveFound 16 = .ok (.iadd, 1) := by decide +kernel
theorem dX6_receiveFound_17 : decode cX6_receiveFound 17 = .ok (.if_icmp .ne 16, 3) := by decide +kernel
theorem dX6_receiveFound_20 : decode cX6_receiveFound 20 = .ok (.aload_n 0, 1) := by decide +kernel
theorem dX6_receiveFound_21 : decode cX6_receiveFound 21 = .ok (.getfield 21, 3) := by decide +kernel
theorem dX6_receiveFound_24 : decode cX6_receiveFound 24 = .ok (.iload_n 1, 1) := by decide +kernel
theorem dX6_receiveFound_25 : decode cX6_receiveFound 25 = .ok (.iload_n 2, 1) := by decide +kernel
theorem dX6_receiveFound_26 : decode cX6_receiveFound 26 = .ok (.invokevirtual 137, 3) := by decide +kernel
theorem dX6_receiveFound_29 : decode cX6_receiveFound 29 = .ok (.aload_n 0, 1) := by decide +kernel
theorem dX6_receiveFound_30 : decode cX6_receiveFound 30 = .ok (.invokevirtual 140, 3) := by decide +kernel
theorem dX6_receiveFound_33 : decode cX6_receiveFound 33 = .ok (.return_, 1) := by decide +kernel
theorem dX6_receiveGapCommit_0 : decode cX6_receiveGapCommit 0 = .ok (.iload_n 1, 1) := by decide +kernel
theorem dX6_receiveGapCommit_1 : decode cX6_receiveGapCommit 1 = .ok (.aload_n 0, 1) := by decide +kernel
theorem dX6_receiveGapCommit_2 : decode cX6_receiveGapCommit 2 = .ok (.getfield 12, 3) := by decide +kernel
theorem dX6_receiveGapCommit_5 : decode cX6_receiveGapCommit 5 = .ok (.getfield 81, 3) := by decide +kernel
theorem dX6_receiveGapCommit_8 : decode cX6_receiveGapCommit 8 = .ok (.iconst 1, 1) := by decide +kernel
theorem dX6_receiveGapCommit_9 : decode cX6_receiveGapCommit 9 = .ok (.iadd, 1) := by decide +kernel
theorem dX6_receiveGapCommit_10 : decode cX6_receiveGapCommit 10 = .ok (.if_icmp .ne 17, 3) := by decide +kernel
theorem dX6_receiveGapCommit_13 : decode cX6_receiveGapCommit 13 = .ok (.aload_n 0, 1) := by decide +kernel
theorem dX6_receiveGapCommit_14 : decode cX6_receiveGapCommit 14 = .ok (.getfield 12, 3) := by decide +kernel
theorem dX6_receiveGapCommit_17 : decode cX6_receiveGapCommit 17 = .ok (.invokevirtual 193, 3) := by decide +kernel
theorem dX6_receiveGapCommit_20 : decode cX6_receiveGapCommit 20 = .ok (.ifCond .ne 7, 3) := by decide +kernel
theorem dX6_receiveGapCommit_23 : decode cX6_receiveGapCommit 23 = .ok (.iconst 1, 1) := by decide +kernel
theorem dX6_receiveGapCommit_24 : decode cX6_receiveGapCommit 24 = .ok (.goto 4, 3) := by decide +kernel
theorem dX6_receiveGapCommit_27 : decode cX6_receiveGapCommit 27 = .ok (.iconst 0, 1) := by decide +kernel
theorem dX6_receiveGapCommit_28 : decode cX6_receiveGapCommit 28 = .ok (.istore_n 2, 1) := by decide +kernel
theorem dX6_receiveGapCommit_29 : decode cX6_receiveGapCommit 29 = .ok (.aload_n 0, 1) := by decide +kernel
theorem dX6_receiveGapCommit_30 : decode cX6_receiveGapCommit 30 = .ok (.invokevirtual 77, 3) := by decide +kernel
theorem dX6_receiveGapCommit_33 : decode cX6_receiveGapCommit 33 = .ok (.ifCond .ne 25, 3) := by decide +kernel
theorem dX6_receiveGapCommit_36 : decode cX6_receiveGapCommit 36 = .ok (.aload_n 0, 1) := by decide +kernel
theorem dX6_receiveGapCommit_37 : decode cX6_receiveGapCommit 37 = .ok (.getfield 25, 3) := by decide +kernel
theorem dX6_receiveGapCommit_40 : decode cX6_receiveGapCommit 40 = .ok (.ifCond .ne 18, 3) := by decide +kernel
theorem dX6_receiveGapCommit_43 : decode cX6_receiveGapCommit 43 = .ok (.iload_n 2, 1) := by decide +kernel
theorem dX6_receiveGapCommit_44 : decode cX6_receiveGapCommit 44 = .ok (.ifCond .ne 15, 3) := by decide +kernel
theorem dX6_receiveGapCommit_47 : decode cX6_receiveGapCommit 47 = .ok (.aload_n 0, 1) := by decide +kernel
theorem dX6_receiveGapCommit_48 : decode cX6_receiveGapCommit 48 = .ok (.getfield 12, 3) := by decide +kernel
theorem dX6_receiveGapCommit_51 : decode cX6_receiveGapCommit 51 = .ok (.iload_n 1, 1) := by decide +kernel
theorem dX6_receiveGapCommit_52 : decode cX6_receiveGapCommit 52 = .ok (.invokevirtual 189, 3) := by decide +kernel
theorem dX6_receiveGapCommit_55 : decode cX6_receiveGapCommit 55 = .ok (.ifCond .ne 4, 3) := by decide +kernel
theorem dX6_receiveGapCommit_58 : decode cX6_receiveGapCommit 58 = .ok (.return_, 1) := by decide +kernel
theorem dX6_receiveGapCommit_59 : decode cX6_receiveGapCommit 59 = .ok (.iload_n 2, 1) := by decide +kernel
theorem dX6_receiveGapCommit_60 : decode cX6_receiveGapCommit 60 = .ok (.ifCond .eq 12, 3) := by decide +kernel
theorem dX6_receiveGapCommit_63 : decode cX6_receiveGapCommit 63 = .ok (.aload_n 0, 1) := by decide +kernel
theorem dX6_receiveGapCommit_64 : decode cX6_receiveGapCommit 64 = .ok (.getfield 21, 3) := by decide +kernel
theorem dX6_receiveGapCommit_67 : decode cX6_receiveGapCommit 67 = .ok (.iload_n 1, 1) := by decide +kernel
theorem dX6_receiveGapCommit_68 : decode cX6_receiveGapCommit 68 = .ok (.invokevirtual 196, 3) := by decide +kernel
theorem dX6_receiveGapCommit_71 : decode cX6_receiveGapCommit 71 = .ok (.pop, 1) := by decide +kernel
theorem dX6_receiveGapCommit_72 : decode cX6_receiveGapCommit 72 = .ok (.aload_n 0, 1) := by decide +kernel
theorem dX6_receiveGapCommit_73 : decode cX6_receiveGapCommit 73 = .ok (.getfield 12, 3) := by decide +kernel
theorem dX6_receiveGapCommit_76 : decode cX6_receiveGapCommit 76 = .ok (.iload_n 1, 1) := by decide +kernel
theorem dX6_receiveGapCommit_77 : decode cX6_receiveGapCommit 77 = .ok (.iconst 0, 1) := by decide +kernel
theorem dX6_receiveGapCommit_78 : decode cX6_receiveGapCommit 78 = .ok (.invokevirtual 199, 3) := by decide +kernel
theorem dX6_receiveGapCommit_81 : decode cX6_receiveGapCommit 81 = .ok (.aload_n 0, 1) := by decide +kernel
theorem dX6_receiveGapCommit_82 : decode cX6_receiveGapCommit 82 = .ok (.iconst 4, 1) := by decide +kernel
theorem dX6_receiveGapCommit_83 : decode cX6_receiveGapCommit 83 = .ok (.aload_n 0, 1) := by decide +kernel
theorem dX6_receiveGapCommit_84 : decode cX6_receiveGapCommit 84 = .ok (.getfield 34, 3) := by decide +kernel
theorem dX6_receiveGapCommit_87 : decode cX6_receiveGapCommit 87 = .ok (.aload_n 0, 1) := by decide +kernel
theorem dX6_receiveGapCommit_88 : decode cX6_receiveGapCommit 88 = .ok (.getfield 44, 3) := by decide +kernel
theorem dX6_receiveGapCommit_91 : decode cX6_receiveGapCommit 91 = .ok (.invokevirtual 106, 3) := by decide +kernel
theorem dX6_receiveGapCommit_94 : decode cX6_receiveGapCommit 94 = .ok (.iload_n 1, 1) := by decide +kernel
theorem dX6_receiveGapCommit_95 : decode cX6_receiveGapCommit 95 = .ok (.invokevirtual 110, 3) := by decide +kernel
theorem dX6_receiveGapCommit_98 : decode cX6_receiveGapCommit 98 = .ok (.pop, 1) := by decide +kernel
theorem dX6_receiveGapCommit_99 : decode cX6_receiveGapCommit 99 = .ok (.iload_n 2, 1) := by decide +kernel
theorem dX6_receiveGapCommit_100 : decode cX6_receiveGapCommit 100 = .ok (.ifCond .eq 7, 3) := by decide +kernel
theorem dX6_receiveGapCommit_103 : decode cX6_receiveGapCommit 103 = .ok (.aload_n 0, 1) := by decide +kernel
theorem dX6_receiveGapCommit_104 : decode cX6_receiveGapCommit 104 = .ok (.invokevirtual 140, 3) := by decide +kernel
theorem dX6_receiveGapCommit_107 : decode cX6_receiveGapCommit 107 = .ok (.return_, 1) := by decide +kernel
theorem dX6_receiveGapReply_0 : decode cX6_receiveGapReply 0 = .ok (.aload_n 0, 1) := by decide +kernel
theorem dX6_receiveGapReply_1 : decode cX6_receiveGapReply 1 = .ok (.invokevirtual 77, 3) := by decide +kernel
theorem dX6_receiveGapReply_4 : decode cX6_receiveGapReply 4 = .ok (.ifCond .eq 22, 3) := by decide +kernel
theorem dX6_receiveGapReply_7 : decode cX6_receiveGapReply 7 = .ok (.aload_n 0, 1) := by decide +kernel
theorem dX6_receiveGapReply_8 : decode cX6_receiveGapReply 8 = .ok (.getfield 25, 3) := by decide +kernel
theorem dX6_receiveGapReply_11 : decode cX6_receiveGapReply 11 = .ok (.iconst 1, 1) := by decide +kernel
theorem dX6_receiveGapReply_12 : decode cX6_receiveGapReply 12 = .ok (.if_icmp .ne 14, 3) := by decide +kernel
theorem dX6_receiveGapReply_15 : decode cX6_receiveGapReply 15 = .ok (.iload_n 2, 1) := by decide +kernel
theorem dX6_receiveGapReply_16 : decode cX6_receiveGapReply 16 = .ok (.aload_n 0, 1) := by decide +kernel
theorem dX6_receiveGapReply_17 : decode cX6_receiveGapReply 17 = .ok (.getfield 12, 3) := by decide +kernel
theorem dX6_receiveGapReply_20 : decode cX6_receiveGapReply 20 = .ok (.getfield 81, 3) := by decide +kernel
theorem dX6_receiveGapReply_23 : decode cX6_receiveGapReply 23 = .ok (.if_icmp .eq 4, 3) := by decide +kernel
theorem dX6_receiveGapReply_26 : decode cX6_receiveGapReply 26 = .ok (.return_, 1) := by decide +kernel
theorem dX6_receiveGapReply_27 : decode cX6_receiveGapReply 27 = .ok (.aload_n 0, 1) := by decide +kernel
theorem dX6_receiveGapReply_28 : decode cX6_receiveGapReply 28 = .ok (.getfield 64, 3) := by decide +kernel
theorem dX6_receiveGapReply_31 : decode cX6_receiveGapReply 31 = .ok (.dup, 1) := by decide +kernel
theorem dX6_receiveGapReply_32 : decode cX6_receiveGapReply 32 = .ok (.getfield 200, 3) := by decide +kernel
theorem dX6_receiveGapReply_35 : decode cX6_receiveGapReply 35 = .ok (.iconst 1, 1) := by decide +kernel
theorem dX6_receiveGapReply_36 : decode cX6_receiveGapReply 36 = .ok (.iload_n 1, 1) := by decide +kernel
theorem dX6_receiveGapReply_37 : decode cX6_receiveGapReply 37 = .ok (.ishl, 1) := by decide +kernel
theorem dX6_receiveGapReply_38 : decode cX6_receiveGapReply 38 = .ok (.ior, 1) := by decide +kernel
theorem dX6_receiveGapReply_39 : decode cX6_receiveGapReply 39 = .ok (.putfield 200, 3) := by decide +kernel
theorem dX6_receiveGapReply_42 : decode cX6_receiveGapReply 42 = .ok (.aload_n 0, 1) := by decide +kernel
theorem dX6_receiveGapReply_43 : decode cX6_receiveGapReply 43 = .ok (.aload_n 0, 1) := by decide +kernel
theorem dX6_receiveGapReply_44 : decode cX6_receiveGapReply 44 = .ok (.getfield 64, 3) := by decide +kernel
theorem dX6_receiveGapReply_47 : decode cX6_receiveGapReply 47 = .ok (.getfield 200, 3) := by decide +kernel
theorem dX6_receiveGapReply_50 : decode cX6_receiveGapReply 50 = .ok (.invokevirtual 203, 3) := by decide +kernel
theorem dX6_receiveGapReply_53 : decode cX6_receiveGapReply 53 = .ok (.ifCond .eq 12, 3) := by decide +kernel
theorem dX6_receiveGapReply_56 : decode cX6_receiveGapReply 56 = .ok (.aload_n 0, 1) := by decide +kernel
theorem dX6_receiveGapReply_57 : decode cX6_receiveGapReply 57 = .ok (.iconst 0, 1) := by decide +kernel
theorem dX6_receiveGapReply_58 : decode cX6_receiveGapReply 58 = .ok (.putfield 25, 3) := by decide +kernel
theorem dX6_receiveGapReply_61 : decode cX6_receiveGapReply 61 = .ok (.aload_n 0, 1) := by decide +kernel
theorem dX6_receiveGapReply_62 : decode cX6_receiveGapReply 62 = .ok (.invokevirtual 140, 3) := by decide +kernel
theorem dX6_receiveGapReply_65 : decode cX6_receiveGapReply 65 = .ok (.return_, 1) := by decide +kernel
theorem dX6_receiveSync_0 : decode cX6_receiveSync 0 = .ok (.aload_n 0, 1) := by decide +kernel
theorem dX6_receiveSync_1 : decode cX6_receiveSync 1 = .ok (.invokevirtual 77, 3) := by decide +kernel
theorem dX6_receiveSync_4 : decode cX6_receiveSync 4 = .ok (.ifCond .ne 24, 3) := by decide +kernel
theorem dX6_receiveSync_7 : decode cX6_receiveSync 7 = .ok (.aload_n 0, 1) := by decide +kernel
theorem dX6_receiveSync_8 : decode cX6_receiveSync 8 = .ok (.getfield 25, 3) := by decide +kernel
theorem dX6_receiveSync_11 : decode cX6_receiveSync 11 = .ok (.ifCond .ne 17, 3) := by decide +kernel
theorem dX6_receiveSync_14 : decode cX6_receiveSync 14 = .ok (.aload_n 1, 1) := by decide +kernel
theorem dX6_receiveSync_15 : decode cX6_receiveSync 15 = .ok (.getfield 127, 3) := by decide +kernel
theorem dX6_receiveSync_18 : decode cX6_receiveSync 18 = .ok (.aload_n 0, 1) := by decide +kernel
theorem dX6_receiveSync_19 : decode cX6_receiveSync 19 = .ok (.getfield 12, 3) := by decide +kernel
theorem dX6_receiveSync_22 : decode cX6_receiveSync 22 = .ok (.getfield 81, 3) := by decide +kernel
theorem dX6_receiveSync_25 : decode cX6_receiveSync 25 = .ok (.if_icmp .le 4, 3) := by decide +kernel
theorem dX6_receiveSync_28 : decode cX6_receiveSync 28 = .ok (.return_, 1) := by decide +kernel
theorem dX6_receiveSync_29 : decode cX6_receiveSync 29 = .ok (.aload_n 0, 1) := by decide +kernel
theorem dX6_receiveSync_30 : decode cX6_receiveSync 30 = .ok (.getfield 12, 3) := by decide +kernel
theorem dX6_receiveSync_33 : decode cX6_receiveSync 33 = .ok (.aload_n 1, 1) := by decide +kernel
theorem dX6_receiveSync_34 : decode cX6_receiveSync 34 = .ok (.getfield 206, 3) := by decide +kernel
theorem dX6_receiveSync_37 : decode cX6_receiveSync 37 = .ok (.aload_n 1, 1) := by decide +kernel
theorem dX6_receiveSync_38 : decode cX6_receiveSync 38 = .ok (.getfield 127, 3) := by decide +kernel
theorem dX6_receiveSync_41 : decode cX6_receiveSync 41 = .ok (.invokevirtual 207, 3) := by decide +kernel
theorem dX6_receiveSync_44 : decode cX6_receiveSync 44 = .ok (.aload_n 0, 1) := by decide +kernel
theorem dX6_receiveSync_45 : decode cX6_receiveSync 45 = .ok (.aload_n 0, 1) := by decide +kernel
theorem dX6_receiveSync_46 : decode cX6_receiveSync 46 = .ok (.getfield 97, 3) := by decide +kernel
theorem dX6_receiveSync_49 : decode cX6_receiveSync 49 = .ok (.aload_n 1, 1) := by decide +kernel
theorem dX6_receiveSync_50 : decode cX6_receiveSync 50 = .ok (.getfield 127, 3) := by decide +kernel
theorem dX6_receiveSync_53 : decode cX6_receiveSync 53 = .ok (.invokestatic 211, 3) := by decide +kernel
theorem dX6_receiveSync_56 : decode cX6_receiveSync 56 = .ok (.putfield 97, 3) := by decide +kernel
theorem dX6_receiveSync_59 : decode cX6_receiveSync 59 = .ok (.aload_n 0, 1) := by decide +kernel
theorem dX6_receiveSync_60 : decode cX6_receiveSync 60 = .ok (.bipush 6, 2) := by decide +kernel
theorem dX6_receiveSync_62 : decode cX6_receiveSync 62 = .ok (.aload_n 0, 1) := by decide +kernel
theorem dX6_receiveSync_63 : decode cX6_receiveSync 63 = .ok (.getfield 34, 3) := by decide +kernel
theorem dX6_receiveSync_66 : decode cX6_receiveSync 66 = .ok (.aload_n 0, 1) := by decide +kernel
theorem dX6_receiveSync_67 : decode cX6_receiveSync 67 = .ok (.getfield 44, 3) := by decide +kernel
theorem dX6_receiveSync_70 : decode cX6_receiveSync 70 = .ok (.invokevirtual 106, 3) := by decide +kernel
theorem dX6_receiveSync_73 : decode cX6_receiveSync 73 = .ok (.aload_n 1, 1) := by decide +kernel
theorem dX6_receiveSync_74 : decode cX6_receiveSync 74 = .ok (.getfield 127, 3) := by decide +kernel
theorem dX6_receiveSync_77 : decode cX6_receiveSync 77 = .ok (.invokevirtual 110, 3) := by decide +kernel
theorem dX6_receiveSync_80 : decode cX6_receiveSync 80 = .ok (.pop, 1) := by decide +kernel
theorem dX6_receiveSync_81 : decode cX6_receiveSync 81 = .ok (.return_, 1) := by decide +kernel
theorem dX6_receiveSyncReply_0 : decode cX6_receiveSyncReply 0 = .ok (.aload_n 0, 1) := by decide +kernel
theorem dX6_receiveSyncReply_1 : decode cX6_receiveSyncReply 1 = .ok (.invokevirtual 77, 3) := by decide +kernel
theorem dX6_receiveSyncReply_4 : decode cX6_receiveSyncReply 4 = .ok (.ifCond .eq 19, 3) := by decide +kernel
theorem dX6_receiveSyncReply_7 : decode cX6_receiveSyncReply 7 = .ok (.aload_n 0, 1) := by decide +kernel
theorem dX6_receiveSyncReply_8 : decode cX6_receiveSyncReply 8 = .ok (.getfield 25, 3) := by decide +kernel
theorem dX6_receiveSyncReply_11 : decode cX6_receiveSyncReply 11 = .ok (.iconst 2, 1) := by decide +kernel
theorem dX6_receiveSyncReply_12 : decode cX6_receiveSyncReply 12 = .ok (.if_icmp .eq 11, 3) := by decide +kernel
theorem dX6_receiveSyncReply_15 : decode cX6_receiveSyncReply 15 = .ok (.iload_n 2, 1) := by decide +kernel
theorem dX6_receiveSyncReply_16 : decode cX6_receiveSyncReply 16 = .ok (.aload_n 0, 1) := by decide +kernel
theorem dX6_receiveSyncReply_17 : decode cX6_receiveSyncReply 17 = .ok (.getfield 84, 3) := by decide +kernel
theorem dX6_receiveSyncReply_20 : decode cX6_receiveSyncReply 20 = .ok (.if_icmp .gt 4, 3) := by decide +kernel
theorem dX6_receiveSyncReply_23 : decode cX6_receiveSyncReply 23 = .ok (.return_, 1) := by decide +kernel
theorem dX6_receiveSyncReply_24 : decode cX6_receiveSyncReply 24 = .ok (.aload_n 0, 1) := by decide +kernel
theorem dX6_receiveSyncReply_25 : decode cX6_receiveSyncReply 25 = .ok (.getfield 64, 3) := by decide +kernel
theorem dX6_receiveSyncReply_28 : decode cX6_receiveSyncReply 28 = .ok (.iload_n 1, 1) := by decide +kernel
theorem dX6_receiveSyncReply_29 : decode cX6_receiveSyncReply 29 = .ok (.iload_n 2, 1) := by decide +kernel
theorem dX6_receiveSyncReply_30 : decode cX6_receiveSyncReply 30 = .ok (.invokevirtual 214, 3) := by decide +kernel
theorem dX6_receiveSyncReply_33 : decode cX6_receiveSyncReply 33 = .ok (.aload_n 0, 1) := by decide +kernel
theorem dX6_receiveSyncReply_34 : decode cX6_receiveSyncReply 34 = .ok (.aload_n 0, 1) := by decide +kernel
theorem dX6_receiveSyncReply_35 : decode cX6_receiveSyncReply 35 = .ok (.getfield 64, 3) := by decide +kernel
theorem dX6_receiveSyncReply_38 : decode cX6_receiveSyncReply 38 = .ok (.getfield 217, 3) := by decide +kernel
theorem dX6_receiveSyncReply_41 : decode cX6_receiveSyncReply 41 = .ok (.invokevirtual 203, 3) := by decide +kernel
theorem dX6_receiveSyncReply_44 : decode cX6_receiveSyncReply 44 = .ok (.ifCond .eq 15, 3) := by decide +kernel
theorem dX6_receiveSyncReply_47 : decode cX6_receiveSyncReply 47 = .ok (.aload_n 0, 1) := by decide +kernel
theorem dX6_receiveSyncReply_48 : decode cX6_receiveSyncReply 48 = .ok (.iload_n 2, 1) := by decide +kernel
theorem dX6_receiveSyncReply_49 : decode cX6_receiveSyncReply 49 = .ok (.putfield 84, 3) := by decide +kernel
theorem dX6_receiveSyncReply_52 : decode cX6_receiveSyncReply 52 = .ok (.aload_n 0, 1) := by decide +kernel
theorem dX6_receiveSyncReply_53 : decode cX6_receiveSyncReply 53 = .ok (.bipush 7, 2) := by decide +kernel
theorem dX6_receiveSyncReply_55 : decode cX6_receiveSyncReply 55 = .ok (.iload_n 2, 1) := by decide +kernel
theorem dX6_receiveSyncReply_56 : decode cX6_receiveSyncReply 56 = .ok (.invokevirtual 103, 3) := by decide +kernel
theorem dX6_receiveSyncReply_59 : decode cX6_receiveSyncReply 59 = .ok (.return_, 1) := by decide +kernel
theorem dX6_receivePoint_0 : decode cX6_receivePoint 0 = .ok (.aload_n 0, 1) := by decide +kernel
theorem dX6_receivePoint_1 : decode cX6_receivePoint 1 = .ok (.invokevirtual 77, 3) := by decide +kernel
theorem dX6_receivePoint_4 : decode cX6_receivePoint 4 = .ok (.ifCond .ne 32, 3) := by decide +kernel
theorem dX6_receivePoint_7 : decode cX6_receivePoint 7 = .ok (.aload_n 0, 1) := by decide +kernel
theorem dX6_receivePoint_8 : decode cX6_receivePoint 8 = .ok (.getfield 25, 3) := by decide +kernel
theorem dX6_receivePoint_11 : decode cX6_receivePoint 11 = .ok (.iconst 2, 1) := by decide +kernel
theorem dX6_receivePoint_12 : decode cX6_receivePoint 12 = .ok (.if_icmp .eq 24, 3) := by decide +kernel
theorem dX6_receivePoint_15 : decode cX6_receivePoint 15 = .ok (.iload_n 1, 1) := by decide +kernel
theorem dX6_receivePoint_16 : decode cX6_receivePoint 16 = .ok (.aload_n 0, 1) := by decide +kernel
theorem dX6_receivePoint_17 : decode cX6_receivePoint 17 = .ok (.getfield 84, 3) := by decide +kernel
theorem dX6_receivePoint_20 : decode cX6_receivePoint 20 = .ok (.if_icmp .le 16, 3) := by decide +kernel
theorem dX6_receivePoint_23 : decode cX6_receivePoint 23 = .ok (.aload_n 0, 1) := by decide +kernel
theorem dX6_receivePoint_24 : decode cX6_receivePoint 24 = .ok (.getfield 97, 3) := by decide +kernel
theorem dX6_receivePoint_27 : decode cX6_receivePoint 27 = .ok (.iload_n 1, 1) := by decide +kernel
theorem dX6_receivePoint_28 : decode cX6_receivePoint 28 = .ok (.if_icmp .lt 8, 3) := by decide +kernel
theorem dX6_receivePoint_31 : decode cX6_receivePoint 31 = .ok (.aload_n 0, 1) := by decide +kernel
theorem dX6_receivePoint_32 : decode cX6_receivePoint 32 = .ok (.iload_n 1, 1) := by decide +kernel
theorem dX6_receivePoint_33 : decode cX6_receivePoint 33 = .ok (.putfield 84, 3) := by decide +kernel
theorem dX6_receivePoint_36 : decode cX6_receivePoint 36 = .ok (.return_, 1) := by decide +kernel
theorem dX6_receiveTurned_0 : decode cX6_receiveTurned 0 = .ok (.aload_n 0, 1) := by decide +kernel
theorem dX6_receiveTurned_1 : decode cX6_receiveTurned 1 = .ok (.getfield 25, 3) := by decide +kernel
theorem dX6_receiveTurned_4 : decode cX6_receiveTurned 4 = .ok (.iconst 2, 1) := by decide +kernel
theorem dX6_receiveTurned_5 : decode cX6_receiveTurned 5 = .ok (.if_icmp .eq 14, 3) := by decide +kernel
theorem dX6_receiveTurned_8 : decode cX6_receiveTurned 8 = .ok (.aload_n 0, 1) := by decide +kernel
theorem dX6_receiveTurned_9 : decode cX6_receiveTurned 9 = .ok (.bipush 10, 2) := by decide +kernel
theorem dX6_receiveTurned_11 : decode cX6_receiveTurned 11 = .ok (.aload_n 1, 1) := by decide +kernel
theorem dX6_receiveTurned_12 : decode cX6_receiveTurned 12 = .ok (.getfield 165, 3) := by decide +kernel
theorem dX6_receiveTurned_15 : decode cX6_receiveTurned 15 = .ok (.invokevirtual 220, 3) := by decide +kernel
theorem dX6_receiveTurned_18 : decode cX6_receiveTurned 18 = .ok (.return_, 1) := by decide +kernel
theorem dX6_receiveTurned_19 : decode cX6_receiveTurned 19 = .ok (.aload_n 0, 1) := by decide +kernel
theorem dX6_receiveTurned_20 : decode cX6_receiveTurned 20 = .ok (.getfield 64, 3) := by decide +kernel
theorem dX6_receiveTurned_23 : decode cX6_receiveTurned 23 = .ok (.aload_n 1, 1) := by decide +kernel
theorem dX6_receiveTurned_24 : decode cX6_receiveTurned 24 = .ok (.invokevirtual 223, 3) := by decide +kernel
theorem dX6_receiveTurned_27 : decode cX6_receiveTurned 27 = .ok (.aload_n 0, 1) := by decide +kernel
theorem dX6_receiveTurned_28 : decode cX6_receiveTurned 28 = .ok (.aload_n 0, 1) := by decide +kernel
theorem dX6_receiveTurned_29 : decode cX6_receiveTurned 29 = .ok (.getfield 64, 3) := by decide +kernel
theorem dX6_receiveTurned_32 : decode cX6_receiveTurned 32 = .ok (.getfield 226, 3) := by decide +kernel
theorem dX6_receiveTurned_35 : decode cX6_receiveTurned 35 = .ok (.invokevirtual 203, 3) := by decide +kernel
theorem dX6_receiveTurned_38 : decode cX6_receiveTurned 38 = .ok (.ifCond .eq 17, 3) := by decide +kernel
theorem dX6_receiveTurned_41 : decode cX6_receiveTurned 41 = .ok (.aload_n 0, 1) := by decide +kernel
theorem dX6_receiveTurned_42 : decode cX6_receiveTurned 42 = .ok (.invokevirtual 229, 3) := by decide +kernel
theorem dX6_receiveTurned_45 : decode cX6_receiveTurned 45 = .ok (.aload_n 0, 1) := by decide +kernel
theorem dX6_receiveTurned_46 : decode cX6_receiveTurned 46 = .ok (.invokevirtual 232, 3) := by decide +kernel
theorem dX6_receiveTurned_49 : decode cX6_receiveTurned 49 = .ok (.aload_n 0, 1) := by decide +kernel
theorem dX6_receiveTurned_50 : decode cX6_receiveTurned 50 = .ok (.bipush 10, 2) := by decide +kernel
theorem dX6_receiveTurned_52 : decode cX6_receiveTurned 52 = .ok (.invokevirtual 235, 3) := by decide +kernel
theorem dX6_receiveTurned_55 : decode cX6_receiveTurned 55 = .ok (.return_, 1) := by decide +kernel
theorem dX6_receiveStart_0 : decode cX6_receiveStart 0 = .ok (.aload_n 0, 1) := by decide +kernel
theorem dX6_receiveStart_1 : decode cX6_receiveStart 1 = .ok (.getfield 34, 3) := by decide +kernel
theorem dX6_receiveStart_4 : decode cX6_receiveStart 4 = .ok (.aload_n 1, 1) := by decide +kernel
theorem dX6_receiveStart_5 : decode cX6_receiveStart 5 = .ok (.getfield 150, 3) := by decide +kernel
theorem dX6_receiveStart_8 : decode cX6_receiveStart 8 = .ok (.invokevirtual 155, 3) := by decide +kernel
theorem dX6_receiveStart_11 : decode cX6_receiveStart 11 = .ok (.ifCond .ne 25, 3) := by decide +kernel
theorem dX6_receiveStart_14 : decode cX6_receiveStart 14 = .ok (.aload_n 1, 1) := by decide +kernel
theorem dX6_receiveStart_15 : decode cX6_receiveStart 15 = .ok (.getfield 150, 3) := by decide +kernel
theorem dX6_receiveStart_18 : decode cX6_receiveStart 18 = .ok (.aload_n 0, 1) := by decide +kernel
theorem dX6_receiveStart_19 : decode cX6_receiveStart 19 = .ok (.getfield 34, 3) := by decide +kernel
theorem dX6_receiveStart_22 : decode cX6_receiveStart 22 = .ok (.invokevirtual 151, 3) := by decide +kernel
theorem dX6_receiveStart_25 : decode cX6_receiveStart 25 = .ok (.ifCond .eq 42, 3) := by decide +kernel
theorem dX6_receiveStart_28 : decode cX6_receiveStart 28 = .ok (.aload_n 0, 1) := by decide +kernel
theorem dX6_receiveStart_29 : decode cX6_receiveStart 29 = .ok (.getfield 25, 3) := by decide +kernel
theorem dX6_receiveStart_32 : decode cX6_receiveStart 32 = .ok (.iconst 2, 1) := by decide +kernel
theorem dX6_receiveStart_33 : decode cX6_receiveStart 33 = .ok (.if_icmp .ne 34, 3) := by decide +kernel
theorem dX6_receiveStart_36 : decode cX6_receiveStart 36 = .ok (.aload_n 0, 1) := by decide +kernel
theorem dX6_receiveStart_37 : decode cX6_receiveStart 37 = .ok (.aload_n 1, 1) := by decide +kernel
theorem dX6_receiveStart_38 : decode cX6_receiveStart 38 = .ok (.getfield 150, 3) := by decide +kernel
theorem dX6_receiveStart_41 : decode cX6_receiveStart 41 = .ok (.putfield 34, 3) := by decide +kernel
theorem dX6_receiveStart_44 : decode cX6_receiveStart 44 = .ok (.aload_n 0, 1) := by decide +kernel
theorem dX6_receiveStart_45 : decode cX6_receiveStart 45 = .ok (.aload_n 1, 1) := by decide +kernel
theorem dX6_receiveStart_46 : decode cX6_receiveStart 46 = .ok (.getfield 238, 3) := by decide +kernel
theorem dX6_receiveStart_49 : decode cX6_receiveStart 49 = .ok (.putfield 124, 3) := by decide +kernel
theorem dX6_receiveStart_52 : decode cX6_receiveStart 52 = .ok (.aload_n 0, 1) := by decide +kernel
theorem dX6_receiveStart_53 : decode cX6_receiveStart 53 = .ok (.getfield 12, 3) := by decide +kernel
theorem dX6_receiveStart_56 : decode cX6_receiveStart 56 = .ok (.aload_n 1, 1) := by decide +kernel
theorem dX6_receiveStart_57 : decode cX6_receiveStart 57 = .ok (.getfield 206, 3) := by decide +kernel
theorem dX6_receiveStart_60 : decode cX6_receiveStart 60 = .ok (.invokevirtual 239, 3) := by decide +kernel
theorem dX6_receiveStart_63 : decode cX6_receiveStart 63 = .ok (.aload_n 0, 1) := by decide +kernel
theorem dX6_receiveStart_64 : decode cX6_receiveStart 64 = .ok (.invokevirtual 232, 3) := by decide +kernel
theorem dX6_receiveStart_67 : decode cX6_receiveStart 67 = .ok (.return_, 1) := by decide +kernel
theorem dX6_becomeNormal_0 : decode cX6_becomeNormal 0 = .ok (.aload_n 0, 1) := by decide +kernel
theorem dX6_becomeNormal_1 : decode cX6_becomeNormal 1 = .ok (.iconst 0, 1) := by decide +kernel
theorem dX6_becomeNormal_2 : decode cX6_becomeNormal 2 = .ok (.putfield 25, 3) := by decide +kernel
theorem dX6_becomeNormal_5 : decode cX6_becomeNormal 5 = .ok (.aload_n 0, 1) := by decide +kernel
theorem dX6_becomeNormal_6 : decode cX6_becomeNormal 6 = .ok (.aload_n 0, 1) := by decide +kernel
theorem dX6_becomeNormal_7 : decode cX6_becomeNormal 7 = .ok (.getfield 34, 3) := by decide +kernel
theorem dX6_becomeNormal_10 : decode cX6_becomeNormal 10 = .ok (.putfield 38, 3) := by decide +kernel
theorem dX6_becomeNormal_13 : decode cX6_becomeNormal 13 = .ok (.aload_n 0, 1) := by decide +kernel
theorem dX6_becomeNormal_14 : decode cX6_becomeNormal 14 = .ok (.invokevirtual 94, 3) := by decide +kernel
theorem dX6_becomeNormal_17 : decode cX6_becomeNormal 17 = .ok (.aload_n 0, 1) := by decide +kernel
theorem dX6_becomeNormal_18 : decode cX6_becomeNormal 18 = .ok (.iconst 0, 1) := by decide +kernel
theorem dX6_becomeNormal_19 : decode cX6_becomeNormal 19 = .ok (.putfield 97, 3) := by decide +kernel
theorem dX6_becomeNormal_22 : decode cX6_becomeNormal 22 = .ok (.return_, 1) := by decide +kernel
theorem dX6_takeHeld_0 : decode cX6_takeHeld 0 = .ok (.aload_n 0, 1) := by decide +kernel
theorem dX6_takeHeld_1 : decode cX6_takeHeld 1 = .ok (.getfield 12, 3) := by decide +kernel
theorem dX6_takeHeld_4 : decode cX6_takeHeld 4 = .ok (.getfield 81, 3) := by decide +kernel
theorem dX6_takeHeld_7 : decode cX6_takeHeld 7 = .ok (.iconst 1, 1) := by decide +kernel
theorem dX6_takeHeld_8 : decode cX6_takeHeld 8 = .ok (.iadd, 1) := by decide +kernel
theorem dX6_takeHeld_9 : decode cX6_takeHeld 9 = .ok (.istore_n 1, 1) := by decide +kernel
theorem dX6_takeHeld_10 : decode cX6_takeHeld 10 = .ok (.iload_n 1, 1) := by decide +kernel
theorem dX6_takeHeld_11 : decode cX6_takeHeld 11 = .ok (.bipush 100, 2) := by decide +kernel
theorem dX6_takeHeld_13 : decode cX6_takeHeld 13 = .ok (.if_icmp .gt 44, 3) := by decide +kernel
theorem dX6_takeHeld_16 : decode cX6_takeHeld 16 = .ok (.aload_n 0, 1) := by decide +kernel
theorem dX6_takeHeld_17 : decode cX6_takeHeld 17 = .ok (.getfield 21, 3) := by decide +kernel
theorem dX6_takeHeld_20 : decode cX6_takeHeld 20 = .ok (.iload_n 1, 1) := by decide +kernel
theorem dX6_takeHeld_21 : decode cX6_takeHeld 21 = .ok (.invokevirtual 130, 3) := by decide +kernel
theorem dX6_takeHeld_24 : decode cX6_takeHeld 24 = .ok (.ifCond .eq 33, 3) := by decide +kernel
theorem dX6_takeHeld_27 : decode cX6_takeHeld 27 = .ok (.aload_n 0, 1) := by decide +kernel
theorem dX6_takeHeld_28 : decode cX6_takeHeld 28 = .ok (.getfield 21, 3) := by decide +kernel
theorem dX6_takeHeld_31 : decode cX6_takeHeld 31 = .ok (.iload_n 1, 1) := by decide +kernel
theorem dX6_takeHeld_32 : decode cX6_takeHeld 32 = .ok (.invokevirtual 196, 3) := by decide +kernel
theorem dX6_takeHeld_35 : decode cX6_takeHeld 35 = .ok (.istore_n 2, 1) := by decide +kernel
theorem dX6_takeHeld_36 : decode cX6_takeHeld 36 = .ok (.aload_n 0, 1) := by decide +kernel
theorem dX6_takeHeld_37 : decode cX6_takeHeld 37 = .ok (.getfield 12, 3) := by decide +kernel
theorem dX6_takeHeld_40 : decode cX6_takeHeld 40 = .ok (.iload_n 1, 1) := by decide +kernel
theorem dX6_takeHeld_41 : decode cX6_takeHeld 41 = .ok (.iload_n 2, 1) := by decide +kernel
theorem dX6_takeHeld_42 : decode cX6_takeHeld 42 = .ok (.invokevirtual 199, 3) := by decide +kernel
theorem dX6_takeHeld_45 : decode cX6_takeHeld 45 = .ok (.aload_n 0, 1) := by decide +kernel
theorem dX6_takeHeld_46 : decode cX6_takeHeld 46 = .ok (.iload_n 1, 1) := by decide +kernel
theorem dX6_takeHeld_47 : decode cX6_takeHeld 47 = .ok (.iload_n 2, 1) := by decide +kernel
theorem dX6_takeHeld_48 : decode cX6_takeHeld 48 = .ok (.invokevirtual 243, 3) := by decide +kernel
theorem dX6_takeHeld_51 : decode cX6_takeHeld 51 = .ok (.iinc 1 1, 3) := by decide +kernel
theorem dX6_takeHeld_54 : decode cX6_takeHeld 54 = .ok (.goto (-44), 3) := by decide +kernel
theorem dX6_takeHeld_57 : decode cX6_takeHeld 57 = .ok (.aload_n 0, 1) := by decide +kernel
theorem dX6_takeHeld_58 : decode cX6_takeHeld 58 = .ok (.getfield 21, 3) := by decide +kernel
theorem dX6_takeHeld_61 : decode cX6_takeHeld 61 = .ok (.getfield 90, 3) := by decide +kernel
theorem dX6_takeHeld_64 : decode cX6_takeHeld 64 = .ok (.ifCond .eq 13, 3) := by decide +kernel
theorem dX6_takeHeld_67 : decode cX6_takeHeld 67 = .ok (.aload_n 0, 1) := by decide +kernel
theorem dX6_takeHeld_68 : decode cX6_takeHeld 68 = .ok (.getfield 12, 3) := by decide +kernel
theorem dX6_takeHeld_71 : decode cX6_takeHeld 71 = .ok (.invokevirtual 193, 3) := by decide +kernel
theorem dX6_takeHeld_74 : decode cX6_takeHeld 74 = .ok (.ifCond .eq 4, 3) := by decide +kernel
theorem dX6_takeHeld_77 : decode cX6_takeHeld 77 = .ok (.return_, 1) := by decide +kernel
theorem dX6_takeHeld_78 : decode cX6_takeHeld 78 = .ok (.aload_n 0, 1) := by decide +kernel
theorem dX6_takeHeld_79 : decode cX6_takeHeld 79 = .ok (.invokevirtual 77, 3) := by decide +kernel
theorem dX6_takeHeld_82 : decode cX6_takeHeld 82 = .ok (.ifCond .eq 48, 3) := by decide +kernel
theorem dX6_takeHeld_85 : decode cX6_takeHeld 85 = .ok (.aload_n 0, 1) := by decide +kernel
theorem dX6_takeHeld_86 : decode cX6_takeHeld 86 = .ok (.getfield 12, 3) := by decide +kernel
theorem dX6_takeHeld_89 : decode cX6_takeHeld 89 = .ok (.aload_n 0, 1) := by decide +kernel
theorem dX6_takeHeld_90 : decode cX6_takeHeld 90 = .ok (.getfield 12, 3) := by decide +kernel
theorem dX6_takeHeld_93 : decode cX6_takeHeld 93 = .ok (.getfield 81, 3) := by decide +kernel
theorem dX6_takeHeld_96 : decode cX6_takeHeld 96 = .ok (.iconst 1, 1) := by decide +kernel
theorem dX6_takeHeld_97 : decode cX6_takeHeld 97 = .ok (.iadd, 1) := by decide +kernel
theorem dX6_takeHeld_98 : decode cX6_takeHeld 98 = .ok (.iconst 0, 1) := by decide +kernel
theorem dX6_takeHeld_99 : decode cX6_takeHeld 99 = .ok (.invokevirtual 199, 3) := by decide +kernel
theorem dX6_takeHeld_102 : decode cX6_takeHeld 102 = .ok (.aload_n 0, 1) := by decide +kernel
theorem dX6_takeHeld_103 : decode cX6_takeHeld 103 = .ok (.iconst 1, 1) := by decide +kernel
theorem dX6_takeHeld_104 : decode cX6_takeHeld 104 = .ok (.putfield 25, 3) := by decide +kernel
theorem dX6_takeHeld_107 : decode cX6_takeHeld 107 = .ok (.aload_n 0, 1) := by decide +kernel
theorem dX6_takeHeld_108 : decode cX6_takeHeld 108 = .ok (.getfield 64, 3) := by decide +kernel
theorem dX6_takeHeld_111 : decode cX6_takeHeld 111 = .ok (.iconst 0, 1) := by decide +kernel
theorem dX6_takeHeld_112 : decode cX6_takeHeld 112 = .ok (.putfield 200, 3) := by decide +kernel
theorem dX6_takeHeld_115 : decode cX6_takeHeld 115 = .ok (.aload_n 0, 1) := by decide +kernel
theorem dX6_takeHeld_116 : decode cX6_takeHeld 116 = .ok (.iconst 3, 1) := by decide +kernel
theorem dX6_takeHeld_117 : decode cX6_takeHeld 117 = .ok (.aload_n 0, 1) := by decide +kernel
theorem dX6_takeHeld_118 : decode cX6_takeHeld 118 = .ok (.getfield 12, 3) := by decide +kernel
theorem dX6_takeHeld_121 : decode cX6_takeHeld 121 = .ok (.getfield 81, 3) := by decide +kernel
theorem dX6_takeHeld_124 : decode cX6_takeHeld 124 = .ok (.invokevirtual 103, 3) := by decide +kernel
theorem dX6_takeHeld_127 : decode cX6_takeHeld 127 = .ok (.goto 29, 3) := by decide +kernel
theorem dX6_takeHeld_130 : decode cX6_takeHeld 130 = .ok (.aload_n 0, 1) := by decide +kernel
theorem dX6_takeHeld_131 : decode cX6_takeHeld 131 = .ok (.iconst 1, 1) := by decide +kernel
theorem dX6_takeHeld_132 : decode cX6_takeHeld 132 = .ok (.aload_n 0, 1) := by decide +kernel
theorem dX6_takeHeld_133 : decode cX6_takeHeld 133 = .ok (.getfield 34, 3) := by decide +kernel
theorem dX6_takeHeld_136 : decode cX6_takeHeld 136 = .ok (.aload_n 0, 1) := by decide +kernel
theorem dX6_takeHeld_137 : decode cX6_takeHeld 137 = .ok (.getfield 44, 3) := by decide +kernel
theorem dX6_takeHeld_140 : decode cX6_takeHeld 140 = .ok (.invokevirtual 106, 3) := by decide +kernel
theorem dX6_takeHeld_143 : decode cX6_takeHeld 143 = .ok (.aload_n 0, 1) := by decide +kernel
theorem dX6_takeHeld_144 : decode cX6_takeHeld 144 = .ok (.getfield 12, 3) := by decide +kernel
theorem dX6_takeHeld_147 : decode cX6_takeHeld 147 = .ok (.getfield 81, 3) := by decide +kernel
theorem dX6_takeHeld_150 : decode cX6_takeHeld 150 = .ok (.iconst 1, 1) := by decide +kernel
theorem dX6_takeHeld_151 : decode cX6_takeHeld 151 = .ok (.iadd, 1) := by decide +kernel
theorem dX6_takeHeld_152 : decode cX6_takeHeld 152 = .ok (.invokevirtual 110, 3) := by decide +kernel
theorem dX6_takeHeld_155 : decode cX6_takeHeld 155 = .ok (.pop, 1) := by decide +kernel
theorem dX6_takeHeld_156 : decode cX6_takeHeld 156 = .ok (.return_, 1) := by decide +kernel
theorem dX6_reply_0 : decode cX6_reply 0 = .ok (.iconst 0, 1) := by decide +kernel
theorem dX6_reply_1 : decode cX6_reply 1 = .ok (.istore_n 3, 1) := by decide +kernel
theorem dX6_reply_2 : decode cX6_reply 2 = .ok (.aload_n 0, 1) := by decide +kernel
theorem dX6_reply_3 : decode cX6_reply 3 = .ok (.invokevirtual 77, 3) := by decide +kernel
theorem dX6_reply_6 : decode cX6_reply 6 = .ok (.ifCond .eq 42, 3) := by decide +kernel
theorem dX6_reply_9 : decode cX6_reply 9 = .ok (.aload_n 0, 1) := by decide +kernel
theorem dX6_reply_10 : decode cX6_reply 10 = .ok (.getfield 51, 3) := by decide +kernel
theorem dX6_reply_13 : decode cX6_reply 13 = .ok (.aload_n 0, 1) := by decide +kernel
theorem dX6_reply_14 : decode cX6_reply 14 = .ok (.getfield 12, 3) := by decide +kernel
theorem dX6_reply_17 : decode cX6_reply 17 = .ok (.aload_n 0, 1) := by decide +kernel
theorem dX6_reply_18 : decode cX6_reply 18 = .ok (.getfield 12, 3) := by decide +kernel
theorem dX6_reply_21 : decode cX6_reply 21 = .ok (.getfield 81, 3) := by decide +kernel
theorem dX6_reply_24 : decode cX6_reply 24 = .ok (.invokevirtual 246, 3) := by decide +kernel
theorem dX6_reply_27 : decode cX6_reply 27 = .ok (.aload_n 0, 1) := by decide +kernel
theorem dX6_reply_28 : decode cX6_reply 28 = .ok (.getfield 51, 3) := by decide +kernel
theorem dX6_reply_31 : decode cX6_reply 31 = .ok (.iload_n 2, 1) := by decide +kernel
theorem dX6_reply_32 : decode cX6_reply 32 = .ok (.invokevirtual 251, 3) := by decide +kernel
theorem dX6_reply_35 : decode cX6_reply 35 = .ok (.ifCond .ne 4, 3) := by decide +kernel
theorem dX6_reply_38 : decode cX6_reply 38 = .ok (.return_, 1) := by decide +kernel
theorem dX6_reply_39 : decode cX6_reply 39 = .ok (.aload_n 0, 1) := by decide +kernel
theorem dX6_reply_40 : decode cX6_reply 40 = .ok (.getfield 51, 3) := by decide +kernel
theorem dX6_reply_43 : decode cX6_reply 43 = .ok (.iload_n 2, 1) := by decide +kernel
theorem dX6_reply_44 : decode cX6_reply 44 = .ok (.invokevirtual 254, 3) := by decide +kernel
theorem dX6_reply_47 : decode cX6_reply 47 = .ok (.istore_n 3, 1) := by decide +kernel
theorem dX6_reply_48 : decode cX6_reply 48 = .ok (.aload_n 0, 1) := by decide +kernel
theorem dX6_reply_49 : decode cX6_reply 49 = .ok (.bipush 11, 2) := by decide +kernel
theorem dX6_reply_51 : decode cX6_reply 51 = .ok (.aload_n 0, 1) := by decide +kernel
theorem dX6_reply_52 : decode cX6_reply 52 = .ok (.getfield 47, 3) := by decide +kernel
theorem dX6_reply_55 : decode cX6_reply 55 = .ok (.getfield 257, 3) := by decide +kernel
theorem dX6_reply_58 : decode cX6_reply 58 = .ok (.iload_n 2, 1) := by decide +kernel
theorem dX6_reply_59 : decode cX6_reply 59 = .ok (.iaload, 1) := by decide +kernel
theorem dX6_reply_60 : decode cX6_reply 60 = .ok (.iload_n 1, 1) := by decide +kernel
theorem dX6_reply_61 : decode cX6_reply 61 = .ok (.invokevirtual 110, 3) := by decide +kernel
theorem dX6_reply_64 : decode cX6_reply 64 = .ok (.astore 4, 2) := by decide +kernel
theorem dX6_reply_66 : decode cX6_reply 66 = .ok (.aload 4, 2) := by decide +kernel
theorem dX6_reply_68 : decode cX6_reply 68 = .ok (.iload_n 2, 1) := by decide +kernel
theorem dX6_reply_69 : decode cX6_reply 69 = .ok (.putfield 134, 3) := by decide +kernel
theorem dX6_reply_72 : decode cX6_reply 72 = .ok (.aload 4, 2) := by decide +kernel
theorem dX6_reply_74 : decode cX6_reply 74 = .ok (.iload_n 3, 1) := by decide +kernel
theorem dX6_reply_75 : decode cX6_reply 75 = .ok (.putfield 263, 3) := by decide +kernel
theorem dX6_reply_78 : decode cX6_reply 78 = .ok (.return_, 1) := by decide +kernel
theorem dX6_mergeLogs_0 : decode cX6_mergeLogs 0 = .ok (.aload_n 0, 1) := by decide +kernel
theorem dX6_mergeLogs_1 : decode cX6_mergeLogs 1 = .ok (.getfield 38, 3) := by decide +kernel
theorem dX6_mergeLogs_4 : decode cX6_mergeLogs 4 = .ok (.astore_n 1, 1) := by decide +kernel
theorem dX6_mergeLogs_5 : decode cX6_mergeLogs 5 = .ok (.iconst 0, 1) := by decide +kernel
theorem dX6_mergeLogs_6 : decode cX6_mergeLogs 6 = .ok (.istore_n 2, 1) := by decide +kernel
theorem dX6_mergeLogs_7 : decode cX6_mergeLogs 7 = .ok (.iload_n 2, 1) := by decide +kernel
theorem dX6_mergeLogs_8 : decode cX6_mergeLogs 8 = .ok (.aload_n 0, 1) := by decide +kernel
theorem dX6_mergeLogs_9 : decode cX6_mergeLogs 9 = .ok (.getfield 44, 3) := by decide +kernel
theorem dX6_mergeLogs_12 : decode cX6_mergeLogs 12 = .ok (.if_icmp .ge 46, 3) := by decide +kernel
theorem dX6_mergeLogs_15 : decode cX6_mergeLogs 15 = .ok (.aload_n 0, 1) := by decide +kernel
theorem dX6_mergeLogs_16 : decode cX6_mergeLogs 16 = .ok (.getfield 64, 3) := by decide +kernel
theorem dX6_mergeLogs_19 : decode cX6_mergeLogs 19 = .ok (.iload_n 2, 1) := by decide +kernel
theorem dX6_mergeLogs_20 : decode cX6_mergeLogs 20 = .ok (.invokevirtual 266, 3) := by decide +kernel
theorem dX6_mergeLogs_23 : decode cX6_mergeLogs 23 = .ok (.ifCond .eq 29, 3) := by decide +kernel
theorem dX6_mergeLogs_26 : decode cX6_mergeLogs 26 = .ok (.aload_n 0, 1) := by decide +kernel
theorem dX6_mergeLogs_27 : decode cX6_mergeLogs 27 = .ok (.getfield 64, 3) := by decide +kernel
theorem dX6_mergeLogs_30 : decode cX6_mergeLogs 30 = .ok (.getfield 269, 3) := by decide +kernel
theorem dX6_mergeLogs_33 : decode cX6_mergeLogs 33 = .ok (.iload_n 2, 1) := by decide +kernel
theorem dX6_mergeLogs_34 : decode cX6_mergeLogs 34 = .ok (.aaload, 1) := by decide +kernel
theorem dX6_mergeLogs_35 : decode cX6_mergeLogs 35 = .ok (.aload_n 1, 1) := by decide +kernel
theorem dX6_mergeLogs_36 : decode cX6_mergeLogs 36 = .ok (.invokevirtual 273, 3) := by decide +kernel
theorem dX6_mergeLogs_39 : decode cX6_mergeLogs 39 = .ok (.ifCond .eq 13, 3) := by decide +kernel
theorem dX6_mergeLogs_42 : decode cX6_mergeLogs 42 = .ok (.aload_n 0, 1) := by decide +kernel
theorem dX6_mergeLogs_43 : decode cX6_mergeLogs 43 = .ok (.getfield 64, 3) := by decide +kernel
theorem dX6_mergeLogs_46 : decode cX6_mergeLogs 46 = .ok (.getfield 269, 3) := by decide +kernel
theorem dX6_mergeLogs_49 : decode cX6_mergeLogs 49 = .ok (.iload_n 2, 1) := by decide +kernel
theorem dX6_mergeLogs_50 : decode cX6_mergeLogs 50 = .ok (.aaload, 1) := by decide +kernel
theorem dX6_mergeLogs_51 : decode cX6_mergeLogs 51 = .ok (.astore_n 1, 1) := by decide +kernel
theorem dX6_mergeLogs_52 : decode cX6_mergeLogs 52 = .ok (.iinc 2 1, 3) := by decide +kernel
theorem dX6_mergeLogs_55 : decode cX6_mergeLogs 55 = .ok (.goto (-48), 3) := by decide +kernel
theorem dX6_mergeLogs_58 : decode cX6_mergeLogs 58 = .ok (.aload_n 0, 1) := by decide +kernel
theorem dX6_mergeLogs_59 : decode cX6_mergeLogs 59 = .ok (.getfield 38, 3) := by decide +kernel
theorem dX6_mergeLogs_62 : decode cX6_mergeLogs 62 = .ok (.aload_n 1, 1) := by decide +kernel
theorem dX6_mergeLogs_63 : decode cX6_mergeLogs 63 = .ok (.invokevirtual 151, 3) := by decide +kernel
theorem dX6_mergeLogs_66 : decode cX6_mergeLogs 66 = .ok (.istore_n 2, 1) := by decide +kernel
theorem dX6_mergeLogs_67 : decode cX6_mergeLogs 67 = .ok (.iload_n 2, 1) := by decide +kernel
theorem dX6_mergeLogs_68 : decode cX6_mergeLogs 68 = .ok (.ifCond .ne 11, 3) := by decide +kernel
theorem dX6_mergeLogs_71 : decode cX6_mergeLogs 71 = .ok (.aload_n 0, 1) := by decide +kernel
theorem dX6_mergeLogs_72 : decode cX6_mergeLogs 72 = .ok (.getfield 12, 3) := by decide +kernel
theorem dX6_mergeLogs_75 : decode cX6_mergeLogs 75 = .ok (.iconst 0, 1) := by decide +kernel
theorem dX6_mergeLogs_76 : decode cX6_mergeLogs 76 = .ok (.putfield 81, 3) := by decide +kernel
theorem dX6_mergeLogs_79 : decode cX6_mergeLogs 79 = .ok (.iconst (-1), 1) := by decide +kernel
theorem dX6_mergeLogs_80 : decode cX6_mergeLogs 80 = .ok (.istore_n 3, 1) := by decide +kernel
theorem dX6_mergeLogs_81 : decode cX6_mergeLogs 81 = .ok (.aload_n 0, 1) := by decide +kernel
theorem dX6_mergeLogs_82 : decode cX6_mergeLogs 82 = .ok (.getfield 12, 3) := by decide +kernel
theorem dX6_mergeLogs_85 : decode cX6_mergeLogs 85 = .ok (.getfield 81, 3) := by decide +kernel
theorem dX6_mergeLogs_88 : decode cX6_mergeLogs 88 = .ok (.istore 4, 2) := by decide +kernel
theorem dX6_mergeLogs_90 : decode cX6_mergeLogs 90 = .ok (.aload_n 0, 1) := by decide +kernel
theorem dX6_mergeLogs_91 : decode cX6_mergeLogs 91 = .ok (.getfield 44, 3) := by decide +kernel
theorem dX6_mergeLogs_94 : decode cX6_mergeLogs 94 = .ok (.iconst 1, 1) := by decide +kernel
theorem dX6_mergeLogs_95 : decode cX6_mergeLogs 95 = .ok (.isub, 1) := by decide +kernel
theorem dX6_mergeLogs_96 : decode cX6_mergeLogs 96 = .ok (.istore 5, 2) := by decide +kernel
theorem dX6_mergeLogs_98 : decode cX6_mergeLogs 98 = .ok (.iload 5, 2) := by decide +kernel
theorem dX6_mergeLogs_100 : decode cX6_mergeLogs 100 = .ok (.ifCond .lt 42, 3) := by decide +kernel
theorem dX6_mergeLogs_103 : decode cX6_mergeLogs 103 = .ok (.aload_n 0, 1) := by decide +kernel
theorem dX6_mergeLogs_104 : decode cX6_mergeLogs 104 = .ok (.iload 5, 2) := by decide +kernel
theorem dX6_mergeLogs_106 : decode cX6_mergeLogs 106 = .ok (.aload_n 1, 1) := by decide +kernel
theorem dX6_mergeLogs_107 : decode cX6_mergeLogs 107 = .ok (.invokevirtual 276, 3) := by decide +kernel
theorem dX6_mergeLogs_110 : decode cX6_mergeLogs 110 = .ok (.ifCond .eq 26, 3) := by decide +kernel
theorem dX6_mergeLogs_113 : decode cX6_mergeLogs 113 = .ok (.iload 5, 2) := by decide +kernel
theorem dX6_mergeLogs_115 : decode cX6_mergeLogs 115 = .ok (.istore_n 3, 1) := by decide +kernel
theorem dX6_mergeLogs_116 : decode cX6_mergeLogs 116 = .ok (.iload 4, 2) := by decide +kernel
theorem dX6_mergeLogs_118 : decode cX6_mergeLogs 118 = .ok (.aload_n 0, 1) := by decide +kernel
theorem dX6_mergeLogs_119 : decode cX6_mergeLogs 119 = .ok (.getfield 64, 3) := by decide +kernel
theorem dX6_mergeLogs_122 : decode cX6_mergeLogs 122 = .ok (.getfield 280, 3) := by decide +kernel
theorem dX6_mergeLogs_125 : decode cX6_mergeLogs 125 = .ok (.iload 5, 2) := by decide +kernel
theorem dX6_mergeLogs_127 : decode cX6_mergeLogs 127 = .ok (.aaload, 1) := by decide +kernel
theorem dX6_mergeLogs_128 : decode cX6_mergeLogs 128 = .ok (.getfield 81, 3) := by decide +kernel
theorem dX6_mergeLogs_131 : decode cX6_mergeLogs 131 = .ok (.invokestatic 211, 3) := by decide +kernel
theorem dX6_mergeLogs_134 : decode cX6_mergeLogs 134 = .ok (.istore 4, 2) := by decide +kernel
theorem dX6_mergeLogs_136 : decode cX6_mergeLogs 136 = .ok (.iinc 5 (-1), 3) := by decide +kernel
theorem dX6_mergeLogs_139 : decode cX6_mergeLogs 139 = .ok (.goto (-41), 3) := by decide +kernel
theorem dX6_mergeLogs_142 : decode cX6_mergeLogs 142 = .ok (.iconst 1, 1) := by decide +kernel
theorem dX6_mergeLogs_143 : decode cX6_mergeLogs 143 = .ok (.istore 5, 2) := by decide +kernel
theorem dX6_mergeLogs_145 : decode cX6_mergeLogs 145 = .ok (.iload 5, 2) := by decide +kernel
theorem dX6_mergeLogs_147 : decode cX6_mergeLogs 147 = .ok (.iload 4, 2) := by decide +kernel
theorem dX6_mergeLogs_149 : decode cX6_mergeLogs 149 = .ok (.if_icmp .gt 25, 3) := by decide +kernel
theorem dX6_mergeLogs_152 : decode cX6_mergeLogs 152 = .ok (.aload_n 0, 1) := by decide +kernel
theorem dX6_mergeLogs_153 : decode cX6_mergeLogs 153 = .ok (.getfield 12, 3) := by decide +kernel
theorem dX6_mergeLogs_156 : decode cX6_mergeLogs 156 = .ok (.iload 5, 2) := by decide +kernel
theorem dX6_mergeLogs_158 : decode cX6_mergeLogs 158 = .ok (.aload_n 0, 1) := by decide +kernel
theorem dX6_mergeLogs_159 : decode cX6_mergeLogs 159 = .ok (.iload 5, 2) := by decide +kernel
theorem dX6_mergeLogs_161 : decode cX6_mergeLogs 161 = .ok (.aload_n 1, 1) := by decide +kernel
theorem dX6_mergeLogs_162 : decode cX6_mergeLogs 162 = .ok (.invokevirtual 284, 3) := by decide +kernel
theorem dX6_mergeLogs_165 : decode cX6_mergeLogs 165 = .ok (.invokevirtual 199, 3) := by decide +kernel
theorem dX6_mergeLogs_168 : decode cX6_mergeLogs 168 = .ok (.iinc 5 1, 3) := by decide +kernel
theorem dX6_mergeLogs_171 : decode cX6_mergeLogs 171 = .ok (.goto (-26), 3) := by decide +kernel
theorem dX6_mergeLogs_174 : decode cX6_mergeLogs 174 = .ok (.aload_n 1, 1) := by decide +kernel
theorem dX6_mergeLogs_175 : decode cX6_mergeLogs 175 = .ok (.getfield 119, 3) := by decide +kernel
theorem dX6_mergeLogs_178 : decode cX6_mergeLogs 178 = .ok (.aload_n 0, 1) := by decide +kernel
theorem dX6_mergeLogs_179 : decode cX6_mergeLogs 179 = .ok (.getfield 34, 3) := by decide +kernel
theorem dX6_mergeLogs_182 : decode cX6_mergeLogs 182 = .ok (.getfield 119, 3) := by decide +kernel
theorem dX6_mergeLogs_185 : decode cX6_mergeLogs 185 = .ok (.if_icmp .eq 12, 3) := by decide +kernel
theorem dX6_mergeLogs_188 : decode cX6_mergeLogs 188 = .ok (.aload_n 0, 1) := by decide +kernel
theorem dX6_mergeLogs_189 : decode cX6_mergeLogs 189 = .ok (.iload 4, 2) := by decide +kernel
theorem dX6_mergeLogs_191 : decode cX6_mergeLogs 191 = .ok (.putfield 124, 3) := by decide +kernel
theorem dX6_mergeLogs_194 : decode cX6_mergeLogs 194 = .ok (.goto 25, 3) := by decide +kernel
theorem dX6_mergeLogs_197 : decode cX6_mergeLogs 197 = .ok (.iload_n 2, 1) := by decide +kernel
theorem dX6_mergeLogs_198 : decode cX6_mergeLogs 198 = .ok (.ifCond .ne 21, 3) := by decide +kernel
theorem dX6_mergeLogs_201 : decode cX6_mergeLogs 201 = .ok (.iload_n 3, 1) := by decide +kernel
theorem dX6_mergeLogs_202 : decode cX6_mergeLogs 202 = .ok (.iconst (-1), 1) := by decide +kernel
theorem dX6_mergeLogs_203 : decode cX6_mergeLogs 203 = .ok (.if_icmp .eq 16, 3) := by decide +kernel
theorem dX6_mergeLogs_206 : decode cX6_mergeLogs 206 = .ok (.aload_n 0, 1) := by decide +kernel
theorem dX6_mergeLogs_207 : decode cX6_mergeLogs 207 = .ok (.aload_n 0, 1) := by decide +kernel
theorem dX6_mergeLogs_208 : decode cX6_mergeLogs 208 = .ok (.getfield 64, 3) := by decide +kernel
theorem dX6_mergeLogs_211 : decode cX6_mergeLogs 211 = .ok (.getfield 288, 3) := by decide +kernel
theorem dX6_mergeLogs_214 : decode cX6_mergeLogs 214 = .ok (.iload_n 3, 1) := by decide +kernel
theorem dX6_mergeLogs_215 : decode cX6_mergeLogs 215 = .ok (.iaload, 1) := by decide +kernel
theorem dX6_mergeLogs_216 : decode cX6_mergeLogs 216 = .ok (.putfield 124, 3) := by decide +kernel
theorem dX6_mergeLogs_219 : decode cX6_mergeLogs 219 = .ok (.return_, 1) := by decide +kernel
theorem dX6_isMerged_0 : decode cX6_isMerged 0 = .ok (.aload_n 0, 1) := by decide +kernel
theorem dX6_isMerged_1 : decode cX6_isMerged 1 = .ok (.getfield 64, 3) := by decide +kernel
theorem dX6_isMerged_4 : decode cX6_isMerged 4 = .ok (.iload_n 1, 1) := by decide +kernel
theorem dX6_isMerged_5 : decode cX6_isMerged 5 = .ok (.invokevirtual 266, 3) := by decide +kernel
theorem dX6_isMerged_8 : decode cX6_isMerged 8 = .ok (.ifCond .eq 23, 3) := by decide +kernel
theorem dX6_isMerged_11 : decode cX6_isMerged 11 = .ok (.aload_n 0, 1) := by decide +kernel
theorem dX6_isMerged_12 : decode cX6_isMerged 12 = .ok (.getfield 64, 3) := by decide +kernel
theorem dX6_isMerged_15 : decode cX6_isMerged 15 = .ok (.getfield 269, 3) := by decide +kernel
theorem dX6_isMerged_18 : decode cX6_isMerged 18 = .ok (.iload_n 1, 1) := by decide +kernel
theorem dX6_isMerged_19 : decode cX6_isMerged 19 = .ok (.aaload, 1) := by decide +kernel
theorem dX6_isMerged_20 : decode cX6_isMerged 20 = .ok (.aload_n 2, 1) := by decide +kernel
theorem dX6_isMerged_21 : decode cX6_isMerged 21 = .ok (.invokevirtual 151, 3) := by decide +kernel
theorem dX6_isMerged_24 : decode cX6_isMerged 24 = .ok (.ifCond .eq 7, 3) := by decide +kernel
theorem dX6_isMerged_27 : decode cX6_isMerged 27 = .ok (.iconst 1, 1) := by decide +kernel
theorem dX6_isMerged_28 : decode cX6_isMerged 28 = .ok (.goto 4, 3) := by decide +kernel
theorem dX6_isMerged_31 : decode cX6_isMerged 31 = .ok (.iconst 0, 1) := by decide +kernel
theorem dX6_isMerged_32 : decode cX6_isMerged 32 = .ok (.ireturn, 1) := by decide +kernel
theorem dX6_mergedEntry_0 : decode cX6_mergedEntry 0 = .ok (.aload_n 0, 1) := by decide +kernel
theorem dX6_mergedEntry_1 : decode cX6_mergedEntry 1 = .ok (.getfield 12, 3) := by decide +kernel
theorem dX6_mergedEntry_4 : decode cX6_mergedEntry 4 = .ok (.iload_n 1, 1) := by decide +kernel
theorem dX6_mergedEntry_5 : decode cX6_mergedEntry 5 = .ok (.invokevirtual 189, 3) := by decide +kernel
theorem dX6_mergedEntry_8 : decode cX6_mergedEntry 8 = .ok (.istore_n 3, 1) := by decide +kernel
theorem dX6_mergedEntry_9 : decode cX6_mergedEntry 9 = .ok (.aload_n 0, 1) := by decide +kernel
theorem dX6_mergedEntry_10 : decode cX6_mergedEntry 10 = .ok (.getfield 12, 3) := by decide +kernel
theorem dX6_mergedEntry_13 : decode cX6_mergedEntry 13 = .ok (.iload_n 1, 1) := by decide +kernel
theorem dX6_mergedEntry_14 : decode cX6_mergedEntry 14 = .ok (.invokevirtual 190, 3) := by decide +kernel
theorem dX6_mergedEntry_17 : decode cX6_mergedEntry 17 = .ok (.istore 4, 2) := by decide +kernel
theorem dX6_mergedEntry_19 : decode cX6_mergedEntry 19 = .ok (.iconst 0, 1) := by decide +kernel
theorem dX6_mergedEntry_20 : decode cX6_mergedEntry 20 = .ok (.istore 5, 2) := by decide +kernel
theorem dX6_mergedEntry_22 : decode cX6_mergedEntry 22 = .ok (.iload 5, 2) := by decide +kernel
theorem dX6_mergedEntry_24 : decode cX6_mergedEntry 24 = .ok (.aload_n 0, 1) := by decide +kernel
theorem dX6_mergedEntry_25 : decode cX6_mergedEntry 25 = .ok (.getfield 44, 3) := by decide +kernel
theorem dX6_mergedEntry_28 : decode cX6_mergedEntry 28 = .ok (.if_icmp .ge 70, 3) := by decide +kernel
theorem dX6_mergedEntry_31 : decode cX6_mergedEntry 31 = .ok (.aload_n 0, 1) := by decide +kernel
theorem dX6_mergedEntry_32 : decode cX6_mergedEntry 32 = .ok (.iload 5, 2) := by decide +kernel
theorem dX6_mergedEntry_34 : decode cX6_mergedEntry 34 = .ok (.aload_n 2, 1) := by decide +kernel
theorem dX6_mergedEntry_35 : decode cX6_mergedEntry 35 = .ok (.invokevirtual 276, 3) := by decide +kernel
theorem dX6_mergedEntry_38 : decode cX6_mergedEntry 38 = .ok (.ifCond .eq 54, 3) := by decide +kernel
theorem dX6_mergedEntry_41 : decode cX6_mergedEntry 41 = .ok (.aload_n 0, 1) := by decide +kernel
theorem dX6_mergedEntry_42 : decode cX6_mergedEntry 42 = .ok (.getfield 64, 3) := by decide +kernel
theorem dX6_mergedEntry_45 : decode cX6_mergedEntry 45 = .ok (.getfield 280, 3) := by decide +kernel
theorem dX6_mergedEntry_48 : decode cX6_mergedEntry 48 = .ok (.iload 5, 2) := by decide +kernel
theorem dX6_mergedEntry_50 : decode cX6_mergedEntry 50 = .ok (.aaload, 1) := by decide +kernel
theorem dX6_mergedEntry_51 : decode cX6_mergedEntry 51 = .ok (.iload_n 1, 1) := by decide +kernel
theorem dX6_mergedEntry_52 : decode cX6_mergedEntry 52 = .ok (.invokevirtual 189, 3) := by decide +kernel
theorem dX6_mergedEntry_55 : decode cX6_mergedEntry 55 = .ok (.ifCond .ne 6, 3) := by decide +kernel
theorem dX6_mergedEntry_58 : decode cX6_mergedEntry 58 = .ok (.goto 34, 3) := by decide +kernel
theorem dX6_mergedEntry_61 : decode cX6_mergedEntry 61 = .ok (.aload_n 0, 1) := by decide +kernel
theorem dX6_mergedEntry_62 : decode cX6_mergedEntry 62 = .ok (.getfield 64, 3) := by decide +kernel
theorem dX6_mergedEntry_65 : decode cX6_mergedEntry 65 = .ok (.getfield 280, 3) := by decide +kernel
theorem dX6_mergedEntry_68 : decode cX6_mergedEntry 68 = .ok (.iload 5, 2) := by decide +kernel
theorem dX6_mergedEntry_70 : decode cX6_mergedEntry 70 = .ok (.aaload, 1) := by decide +kernel
theorem dX6_mergedEntry_71 : decode cX6_mergedEntry 71 = .ok (.iload_n 1, 1) := by decide +kernel
theorem dX6_mergedEntry_72 : decode cX6_mergedEntry 72 = .ok (.invokevirtual 190, 3) := by decide +kernel
theorem dX6_mergedEntry_75 : decode cX6_mergedEntry 75 = .ok (.istore 6, 2) := by decide +kernel
theorem dX6_mergedEntry_77 : decode cX6_mergedEntry 77 = .ok (.iload_n 3, 1) := by decide +kernel
theorem dX6_mergedEntry_78 : decode cX6_mergedEntry 78 = .ok (.ifCond .eq 8, 3) := by decide +kernel
theorem dX6_mergedEntry_81 : decode cX6_mergedEntry 81 = .ok (.iload 6, 2) := by decide +kernel
theorem dX6_mergedEntry_83 : decode cX6_mergedEntry 83 = .ok (.ifCond .ne 7, 3) := by decide +kernel
theorem dX6_mergedEntry_86 : decode cX6_mergedEntry 86 = .ok (.iload 6, 2) := by decide +kernel
theorem dX6_mergedEntry_88 : decode cX6_mergedEntry 88 = .ok (.istore 4, 2) := by decide +kernel
theorem dX6_mergedEntry_90 : decode cX6_mergedEntry 90 = .ok (.iconst 1, 1) := by decide +kernel
theorem dX6_mergedEntry_91 : decode cX6_mergedEntry 91 = .ok (.istore_n 3, 1) := by decide +kernel
theorem dX6_mergedEntry_92 : decode cX6_mergedEntry 92 = .ok (.iinc 5 1, 3) := by decide +kernel
theorem dX6_mergedEntry_95 : decode cX6_mergedEntry 95 = .ok (.goto (-73), 3) := by decide +kernel
theorem dX6_mergedEntry_98 : decode cX6_mergedEntry 98 = .ok (.iload 4, 2) := by decide +kernel
theorem dX6_mergedEntry_100 : decode cX6_mergedEntry 100 = .ok (.ireturn, 1) := by decide +kernel
theorem dX6_isEnough_0 : decode cX6_isEnough 0 = .ok (.iload_n 1, 1) := by decide +kernel
theorem dX6_isEnough_1 : decode cX6_isEnough 1 = .ok (.invokestatic 291, 3) := by decide +kernel
theorem dX6_isEnough_4 : decode cX6_isEnough 4 = .ok (.aload_n 0, 1) := by decide +kernel
theorem dX6_isEnough_5 : decode cX6_isEnough 5 = .ok (.getfield 44, 3) := by decide +kernel
theorem dX6_isEnough_8 : decode cX6_isEnough 8 = .ok (.iconst 2, 1) := by decide +kernel
theorem dX6_isEnough_9 : decode cX6_isEnough 9 = .ok (.idiv, 1) := by decide +kernel
theorem dX6_isEnough_10 : decode cX6_isEnough 10 = .ok (.if_icmp .lt 7, 3) := by decide +kernel
theorem dX6_isEnough_13 : decode cX6_isEnough 13 = .ok (.iconst 1, 1) := by decide +kernel
theorem dX6_isEnough_14 : decode cX6_isEnough 14 = .ok (.goto 4, 3) := by decide +kernel
theorem dX6_isEnough_17 : decode cX6_isEnough 17 = .ok (.iconst 0, 1) := by decide +kernel
theorem dX6_isEnough_18 : decode cX6_isEnough 18 = .ok (.ireturn, 1) := by decide +kernel
theorem dX6_sendTurns_0 : decode cX6_sendTurns 0 = .ok (.aload_n 0, 1) := by decide +kernel
theorem dX6_sendTurns_1 : decode cX6_sendTurns 1 = .ok (.bipush 8, 2) := by decide +kernel
theorem dX6_sendTurns_3 : decode cX6_sendTurns 3 = .ok (.iconst 0, 1) := by decide +kernel
theorem dX6_sendTurns_4 : decode cX6_sendTurns 4 = .ok (.invokevirtual 103, 3) := by decide +kernel
theorem dX6_sendTurns_7 : decode cX6_sendTurns 7 = .ok (.aload_n 0, 1) := by decide +kernel
theorem dX6_sendTurns_8 : decode cX6_sendTurns 8 = .ok (.invokevirtual 77, 3) := by decide +kernel
theorem dX6_sendTurns_11 : decode cX6_sendTurns 11 = .ok (.ifCond .ne 20, 3) := by decide +kernel
theorem dX6_sendTurns_14 : decode cX6_sendTurns 14 = .ok (.aload_n 0, 1) := by decide +kernel
theorem dX6_sendTurns_15 : decode cX6_sendTurns 15 = .ok (.bipush 9, 2) := by decide +kernel
theorem dX6_sendTurns_17 : decode cX6_sendTurns 17 = .ok (.aload_n 0, 1) := by decide +kernel
theorem dX6_sendTurns_18 : decode cX6_sendTurns 18 = .ok (.getfield 34, 3) := by decide +kernel
theorem dX6_sendTurns_21 : decode cX6_sendTurns 21 = .ok (.aload_n 0, 1) := by decide +kernel
theorem dX6_sendTurns_22 : decode cX6_sendTurns 22 = .ok (.getfield 44, 3) := by decide +kernel
theorem dX6_sendTurns_25 : decode cX6_sendTurns 25 = .ok (.invokevirtual 106, 3) := by decide +kernel
theorem dX6_sendTurns_28 : decode cX6_sendTurns 28 = .ok (.invokevirtual 220, 3) := by decide +kernel
theorem dX6_sendTurns_31 : decode cX6_sendTurns 31 = .ok (.return_, 1) := by decide +kernel
theorem dX6_sendToOthers_0 : decode cX6_sendToOthers 0 = .ok (.iconst 0, 1) := by decide +kernel
theorem dX6_sendToOthers_1 : decode cX6_sendToOthers 1 = .ok (.istore_n 3, 1) := by decide +kernel
theorem dX6_sendToOthers_2 : decode cX6_sendToOthers 2 = .ok (.iload_n 3, 1) := by decide +kernel
theorem dX6_sendToOthers_3 : decode cX6_sendToOthers 3 = .ok (.aload_n 0, 1) := by decide +kernel
theorem dX6_sendToOthers_4 : decode cX6_sendToOthers 4 = .ok (.getfield 44, 3) := by decide +kernel
theorem dX6_sendToOthers_7 : decode cX6_sendToOthers 7 = .ok (.if_icmp .ge 25, 3) := by decide +kernel
theorem dX6_sendToOthers_10 : decode cX6_sendToOthers 10 = .ok (.iload_n 3, 1) := by decide +kernel
theorem dX6_sendToOthers_11 : decode cX6_sendToOthers 11 = .ok (.aload_n 0, 1) := by decide +kernel
theorem dX6_sendToOthers_12 : decode cX6_sendToOthers 12 = .ok (.getfield 41, 3) := by decide +kernel
theorem dX6_sendToOthers_15 : decode cX6_sendToOthers 15 = .ok (.if_icmp .eq 11, 3) := by decide +kernel
theorem dX6_sendToOthers_18 : decode cX6_sendToOthers 18 = .ok (.aload_n 0, 1) := by decide +kernel
theorem dX6_sendToOthers_19 : decode cX6_sendToOthers 19 = .ok (.iload_n 1, 1) := by decide +kernel
theorem dX6_sendToOthers_20 : decode cX6_sendToOthers 20 = .ok (.iload_n 3, 1) := by decide +kernel
theorem dX6_sendToOthers_21 : decode cX6_sendToOthers 21 = .ok (.iload_n 2, 1) := by decide +kernel
theorem dX6_sendToOthers_22 : decode cX6_sendToOthers 22 = .ok (.invokevirtual 110, 3) := by decide +kernel
theorem dX6_sendToOthers_25 : decode cX6_sendToOthers 25 = .ok (.pop, 1) := by decide +kernel
theorem dX6_sendToOthers_26 : decode cX6_sendToOthers 26 = .ok (.iinc 3 1, 3) := by decide +kernel
theorem dX6_sendToOthers_29 : decode cX6_sendToOthers 29 = .ok (.goto (-27), 3) := by decide +kernel
theorem dX6_sendToOthers_32 : decode cX6_sendToOthers 32 = .ok (.return_, 1) := by decide +kernel
theorem dX6_sendLogToOthers_0 : decode cX6_sendLogToOthers 0 = .ok (.iconst 0, 1) := by decide +kernel
theorem dX6_sendLogToOthers_1 : decode cX6_sendLogToOthers 1 = .ok (.istore_n 2, 1) := by decide +kernel
theorem dX6_sendLogToOthers_2 : decode cX6_sendLogToOthers 2 = .ok (.iload_n 2, 1) := by decide +kernel
theorem dX6_sendLogToOthers_3 : decode cX6_sendLogToOthers 3 = .ok (.aload_n 0, 1) := by decide +kernel
theorem dX6_sendLogToOthers_4 : decode cX6_sendLogToOthers 4 = .ok (.getfield 44, 3) := by decide +kernel
theorem dX6_sendLogToOthers_7 : decode cX6_sendLogToOthers 7 = .ok (.if_icmp .ge 23, 3) := by decide +kernel
theorem dX6_sendLogToOthers_10 : decode cX6_sendLogToOthers 10 = .ok (.iload_n 2, 1) := by decide +kernel
theorem dX6_sendLogToOthers_11 : decode cX6_sendLogToOthers 11 = .ok (.aload_n 0, 1) := by decide +kernel
theorem dX6_sendLogToOthers_12 : decode cX6_sendLogToOthers 12 = .ok (.getfield 41, 3) := by decide +kernel
theorem dX6_sendLogToOthers_15 : decode cX6_sendLogToOthers 15 = .ok (.if_icmp .eq 9, 3) := by decide +kernel
theorem dX6_sendLogToOthers_18 : decode cX6_sendLogToOthers 18 = .ok (.aload_n 0, 1) := by decide +kernel
theorem dX6_sendLogToOthers_19 : decode cX6_sendLogToOthers 19 = .ok (.iload_n 1, 1) := by decide +kernel
theorem dX6_sendLogToOthers_20 : decode cX6_sendLogToOthers 20 = .ok (.iload_n 2, 1) := by decide +kernel
theorem dX6_sendLogToOthers_21 : decode cX6_sendLogToOthers 21 = .ok (.invokevirtual 220, 3) := by decide +kernel
theorem dX6_sendLogToOthers_24 : decode cX6_sendLogToOthers 24 = .ok (.iinc 2 1, 3) := by decide +kernel
theorem dX6_sendLogToOthers_27 : decode cX6_sendLogToOthers 27 = .ok (.goto (-25), 3) := by decide +kernel
theorem dX6_sendLogToOthers_30 : decode cX6_sendLogToOthers 30 = .ok (.return_, 1) := by decide +kernel
theorem dX6_sendLog_0 : decode cX6_sendLog 0 = .ok (.aload_n 0, 1) := by decide +kernel
theorem dX6_sendLog_1 : decode cX6_sendLog 1 = .ok (.iload_n 1, 1) := by decide +kernel
theorem dX6_sendLog_2 : decode cX6_sendLog 2 = .ok (.iload_n 2, 1) := by decide +kernel
theorem dX6_sendLog_3 : decode cX6_sendLog 3 = .ok (.aload_n 0, 1) := by decide +kernel
theorem dX6_sendLog_4 : decode cX6_sendLog 4 = .ok (.getfield 12, 3) := by decide +kernel
theorem dX6_sendLog_7 : decode cX6_sendLog 7 = .ok (.getfield 81, 3) := by decide +kernel
theorem dX6_sendLog_10 : decode cX6_sendLog 10 = .ok (.invokevirtual 110, 3) := by decide +kernel
theorem dX6_sendLog_13 : decode cX6_sendLog 13 = .ok (.astore_n 3, 1) := by decide +kernel
theorem dX6_sendLog_14 : decode cX6_sendLog 14 = .ok (.aload_n 3, 1) := by decide +kernel
theorem dX6_sendLog_15 : decode cX6_sendLog 15 = .ok (.aload_n 0, 1) := by decide +kernel
theorem dX6_sendLog_16 : decode cX6_sendLog 16 = .ok (.getfield 38, 3) := by decide +kernel
theorem dX6_sendLog_19 : decode cX6_sendLog 19 = .ok (.putfield 296, 3) := by decide +kernel
theorem dX6_sendLog_22 : decode cX6_sendLog 22 = .ok (.aload_n 3, 1) := by decide +kernel
theorem dX6_sendLog_23 : decode cX6_sendLog 23 = .ok (.aload_n 0, 1) := by decide +kernel
theorem dX6_sendLog_24 : decode cX6_sendLog 24 = .ok (.getfield 124, 3) := by decide +kernel
theorem dX6_sendLog_27 : decode cX6_sendLog 27 = .ok (.putfield 238, 3) := by decide +kernel
theorem dX6_sendLog_30 : decode cX6_sendLog 30 = .ok (.aload_n 3, 1) := by decide +kernel
theorem dX6_sendLog_31 : decode cX6_sendLog 31 = .ok (.getfield 206, 3) := by decide +kernel
theorem dX6_sendLog_34 : decode cX6_sendLog 34 = .ok (.aload_n 0, 1) := by decide +kernel
theorem dX6_sendLog_35 : decode cX6_sendLog 35 = .ok (.getfield 12, 3) := by decide +kernel
theorem dX6_sendLog_38 : decode cX6_sendLog 38 = .ok (.invokevirtual 239, 3) := by decide +kernel
theorem dX6_sendLog_41 : decode cX6_sendLog 41 = .ok (.return_, 1) := by decide +kernel
theorem dX6_send_0 : decode cX6_send 0 = .ok (.aload_n 0, 1) := by decide +kernel
theorem dX6_send_1 : decode cX6_send 1 = .ok (.getfield 55, 3) := by decide +kernel
theorem dX6_send_4 : decode cX6_send 4 = .ok (.iload_n 1, 1) := by decide +kernel
theorem dX6_send_5 : decode cX6_send 5 = .ok (.aload_n 0, 1) := by decide +kernel
theorem dX6_send_6 : decode cX6_send 6 = .ok (.getfield 41, 3) := by decide +kernel
theorem dX6_send_9 : decode cX6_send 9 = .ok (.iload_n 2, 1) := by decide +kernel
theorem dX6_send_10 : decode cX6_send 10 = .ok (.invokevirtual 297, 3) := by decide +kernel
theorem dX6_send_13 : decode cX6_send 13 = .ok (.astore 4, 2) := by decide +kernel
theorem dX6_send_15 : decode cX6_send 15 = .ok (.aload 4, 2) := by decide +kernel
theorem dX6_send_17 : decode cX6_send 17 = .ok (.aload_n 0, 1) := by decide +kernel
theorem dX6_send_18 : decode cX6_send 18 = .ok (.getfield 34, 3) := by decide +kernel
theorem dX6_send_21 : decode cX6_send 21 = .ok (.putfield 150, 3) := by decide +kernel
theorem dX6_send_24 : decode cX6_send 24 = .ok (.aload 4, 2) := by decide +kernel
theorem dX6_send_26 : decode cX6_send 26 = .ok (.iload_n 3, 1) := by decide +kernel
theorem dX6_send_27 : decode cX6_send 27 = .ok (.putfield 127, 3) := by decide +kernel
theorem dX6_send_30 : decode cX6_send 30 = .ok (.aload 4, 2) := by decide +kernel
theorem dX6_send_32 : decode cX6_send 32 = .ok (.areturn, 1) := by decide +kernel
theorem dX7_init_0 : decode cX7_init 0 = .ok (.aload_n 0, 1) := by decide +kernel
theorem dX7_init_1 : decode cX7_init 1 = .ok (.invokespecial 3, 3) := by decide +kernel
theorem dX7_init_4 : decode cX7_init 4 = .ok (.aload_n 0, 1) := by decide +kernel
theorem dX7_init_5 : decode cX7_init 5 = .ok (.sipush 513, 3) := by decide +kernel
theorem dX7_init_8 : decode cX7_init 8 = .ok (.newarray .int, 2) := by decide +kernel
theorem dX7_init_10 : decode cX7_init 10 = .ok (.putfield 9, 3) := by decide +kernel
theorem dX7_init_13 : decode cX7_init 13 = .ok (.aload_n 0, 1) := by decide +kernel
theorem dX7_init_14 : decode cX7_init 14 = .ok (.sipush 513, 3) := by decide +kernel
theorem dX7_init_17 : decode cX7_init 17 = .ok (.newarray .int, 2) := by decide +kernel
theorem dX7_init_19 : decode cX7_init 19 = .ok (.putfield 15, 3) := by decide +kernel
theorem dX7_init_22 : decode cX7_init 22 = .ok (.aload_n 0, 1) := by decide +kernel
theorem dX7_init_23 : decode cX7_init 23 = .ok (.sipush 513, 3) := by decide +kernel
theorem dX7_init_26 : decode cX7_init 26 = .ok (.newarray .int, 2) := by decide +kernel
theorem dX7_init_28 : decode cX7_init 28 = .ok (.putfield 18, 3) := by decide +kernel
theorem dX7_init_31 : decode cX7_init 31 = .ok (.aload_n 0, 1) := by decide +kernel
theorem dX7_init_32 : decode cX7_init 32 = .ok (.sipush 513, 3) := by decide +kernel
theorem dX7_init_35 : decode cX7_init 35 = .ok (.newarray .int, 2) := by decide +kernel
theorem dX7_init_37 : decode cX7_init 37 = .ok (.putfield 21, 3) := by decide +kernel
theorem dX7_init_40 : decode cX7_init 40 = .ok (.aload_n 0, 1) := by decide +kernel
theorem dX7_init_41 : decode cX7_init 41 = .ok (.sipush 513, 3) := by decide +kernel
theorem dX7_init_44 : decode cX7_init 44 = .ok (.newarray .int, 2) := by decide +kernel
theorem dX7_init_46 : decode cX7_init 46 = .ok (.putfield 24, 3) := by decide +kernel
theorem dX7_init_49 : decode cX7_init 49 = .ok (.aload_n 0, 1) := by decide +kernel
theorem dX7_init_50 : decode cX7_init 50 = .ok (.iconst 0, 1) := by decide +kernel
theorem dX7_init_51 : decode cX7_init 51 = .ok (.putfield 27, 3) := by decide +kernel
theorem dX7_init_54 : decode cX7_init 54 = .ok (.return_, 1) := by decide +kernel
theorem dX7_add_0 : decode cX7_add 0 = .ok (.aload_n 0, 1) := by decide +kernel
theorem dX7_add_1 : decode cX7_add 1 = .ok (.getfield 27, 3) := by decide +kernel
theorem dX7_add_4 : decode cX7_add 4 = .ok (.sipush 512, 3) := by decide +kernel
theorem dX7_add_7 : decode cX7_add 7 = .ok (.if_icmp .lt 5, 3) := by decide +kernel
theorem dX7_add_10 : decode cX7_add 10 = .ok (.iconst 0, 1) := by decide +kernel
theorem dX7_add_11 : decode cX7_add 11 = .ok (.ireturn, 1) := by decide +kernel
theorem dX7_add_12 : decode cX7_add 12 = .ok (.aload_n 0, 1) := by decide +kernel
theorem dX7_add_13 : decode cX7_add 13 = .ok (.dup, 1) := by decide +kernel
theorem dX7_add_14 : decode cX7_add 14 = .ok (.getfield 27, 3) := by decide +kernel
theorem dX7_add_17 : decode cX7_add 17 = .ok (.iconst 1, 1) := by decide +kernel
theorem dX7_add_18 : decode cX7_add 18 = .ok (.iadd, 1) := by decide +kernel
theorem dX7_add_19 : decode cX7_add 19 = .ok (.putfield 27, 3) := by decide +kernel
theorem dX7_add_22 : decode cX7_add 22 = .ok (.aload_n 0, 1) := by decide +kernel
theorem dX7_add_23 : decode cX7_add 23 = .ok (.getfield 9, 3) := by decide +kernel
theorem dX7_add_26 : decode cX7_add 26 = .ok (.aload_n 0, 1) := by decide +kernel
theorem dX7_add_27 : decode cX7_add 27 = .ok (.getfield 27, 3) := by decide +kernel
theorem dX7_add_30 : decode cX7_add 30 = .ok (.iload_n 1, 1) := by decide +kernel
theorem dX7_add_31 : decode cX7_add 31 = .ok (.iastore, 1) := by decide +kernel
theorem dX7_add_32 : decode cX7_add 32 = .ok (.aload_n 0, 1) := by decide +kernel
theorem dX7_add_33 : decode cX7_add 33 = .ok (.getfield 15, 3) := by decide +kernel
theorem dX7_add_36 : decode cX7_add 36 = .ok (.aload_n 0, 1) := by decide +kernel
theorem dX7_add_37 : decode cX7_add 37 = .ok (.getfield 27, 3) := by decide +kernel
theorem dX7_add_40 : decode cX7_add 40 = .ok (.iload_n 2, 1) := by decide +kernel
theorem dX7_add_41 : decode cX7_add 41 = .ok (.iastore, 1) := by decide +kernel
theorem dX7_add_42 : decode cX7_add 42 = .ok (.aload_n 0, 1) := by decide +kernel
theorem dX7_add_43 : decode cX7_add 43 = .ok (.getfield 18, 3) := by decide +kernel
theorem dX7_add_46 : decode cX7_add 46 = .ok (.aload_n 0, 1) := by decide +kernel
theorem dX7_add_47 : decode cX7_add 47 = .ok (.getfield 27, 3) := by decide +kernel
theorem dX7_add_50 : decode cX7_add 50 = .ok (.iload_n 3, 1) := by decide +kernel
theorem dX7_add_51 : decode cX7_add 51 = .ok (.iastore, 1) := by decide +kernel
theorem dX7_add_52 : decode cX7_add 52 = .ok (.aload_n 0, 1) := by decide +kernel
theorem dX7_add_53 : decode cX7_add 53 = .ok (.getfield 21, 3) := by decide +kernel
theorem dX7_add_56 : decode cX7_add 56 = .ok (.aload_n 0, 1) := by decide +kernel
theorem dX7_add_57 : decode cX7_add 57 = .ok (.getfield 27, 3) := by decide +kernel
theorem dX7_add_60 : decode cX7_add 60 = .ok (.iload 4, 2) := by decide +kernel
theorem dX7_add_62 : decode cX7_add 62 = .ok (.iastore, 1) := by decide +kernel
theorem dX7_add_63 : decode cX7_add 63 = .ok (.aload_n 0, 1) := by decide +kernel
theorem dX7_add_64 : decode cX7_add 64 = .ok (.getfield 24, 3) := by decide +kernel
theorem dX7_add_67 : decode cX7_add 67 = .ok (.aload_n 0, 1) := by decide +kernel
theorem dX7_add_68 : decode cX7_add 68 = .ok (.getfield 27, 3) := by decide +kernel
theorem dX7_add_71 : decode cX7_add 71 = .ok (.iload 5, 2) := by decide +kernel
theorem dX7_add_73 : decode cX7_add 73 = .ok (.iastore, 1) := by decide +kernel
theorem dX7_add_74 : decode cX7_add 74 = .ok (.aload_n 0, 1) := by decide +kernel
theorem dX7_add_75 : decode cX7_add 75 = .ok (.getfield 27, 3) := by decide +kernel
theorem dX7_add_78 : decode cX7_add 78 = .ok (.ireturn, 1) := by decide +kernel
theorem dX8_init_0 : decode cX8_init 0 = .ok (.aload_n 0, 1) := by decide +kernel
theorem dX8_init_1 : decode cX8_init 1 = .ok (.invokespecial 1, 3) := by decide +kernel
theorem dX8_init_4 : decode cX8_init 4 = .ok (.aload_n 0, 1) := by decide +kernel
theorem dX8_init_5 : decode cX8_init 5 = .ok (.iload_n 1, 1) := by decide +kernel
theorem dX8_init_6 : decode cX8_init 6 = .ok (.anewarray 7, 3) := by decide +kernel
theorem dX8_init_9 : decode cX8_init 9 = .ok (.putfield 9, 3) := by decide +kernel
theorem dX8_init_12 : decode cX8_init 12 = .ok (.aload_n 0, 1) := by decide +kernel
theorem dX8_init_13 : decode cX8_init 13 = .ok (.iload_n 1, 1) := by decide +kernel
theorem dX8_init_14 : decode cX8_init 14 = .ok (.newarray .int, 2) := by decide +kernel
theorem dX8_init_16 : decode cX8_init 16 = .ok (.putfield 15, 3) := by decide +kernel
theorem dX8_init_19 : decode cX8_init 19 = .ok (.aload_n 0, 1) := by decide +kernel
theorem dX8_init_20 : decode cX8_init 20 = .ok (.iload_n 1, 1) := by decide +kernel
theorem dX8_init_21 : decode cX8_init 21 = .ok (.anewarray 19, 3) := by decide +kernel
theorem dX8_init_24 : decode cX8_init 24 = .ok (.putfield 21, 3) := by decide +kernel
theorem dX8_init_27 : decode cX8_init 27 = .ok (.iconst 0, 1) := by decide +kernel
theorem dX8_init_28 : decode cX8_init 28 = .ok (.istore_n 2, 1) := by decide +kernel
theorem dX8_init_29 : decode cX8_init 29 = .ok (.iload_n 2, 1) := by decide +kernel
theorem dX8_init_30 : decode cX8_init 30 = .ok (.iload_n 1, 1) := by decide +kernel
theorem dX8_init_31 : decode cX8_init 31 = .ok (.if_icmp .ge 22, 3) := by decide +kernel
theorem dX8_init_34 : decode cX8_init 34 = .ok (.aload_n 0, 1) := by decide +kernel
theorem dX8_init_35 : decode cX8_init 35 = .ok (.getfield 21, 3) := by decide +kernel
theorem dX8_init_38 : decode cX8_init 38 = .ok (.iload_n 2, 1) := by decide +kernel
theorem dX8_init_39 : decode cX8_init 39 = .ok (.new 19, 3) := by decide +kernel
theorem dX8_init_42 : decode cX8_init 42 = .ok (.dup, 1) := by decide +kernel
theorem dX8_init_43 : decode cX8_init 43 = .ok (.invokespecial 25, 3) := by decide +kernel
theorem dX8_init_46 : decode cX8_init 46 = .ok (.aastore, 1) := by decide +kernel
theorem dX8_init_47 : decode cX8_init 47 = .ok (.iinc 2 1, 3) := by decide +kernel
theorem dX8_init_50 : decode cX8_init 50 = .ok (.goto (-21), 3) := by decide +kernel
theorem dX8_init_53 : decode cX8_init 53 = .ok (.return_, 1) := by decide +kernel
theorem dX8_clear_0 : decode cX8_clear 0 = .ok (.aload_n 0, 1) := by decide +kernel
theorem dX8_clear_1 : decode cX8_clear 1 = .ok (.iconst 0, 1) := by decide +kernel
theorem dX8_clear_2 : decode cX8_clear 2 = .ok (.putfield 26, 3) := by decide +kernel
theorem dX8_clear_5 : decode cX8_clear 5 = .ok (.aload_n 0, 1) := by decide +kernel
theorem dX8_clear_6 : decode cX8_clear 6 = .ok (.iconst 0, 1) := by decide +kernel
theorem dX8_clear_7 : decode cX8_clear 7 = .ok (.putfield 30, 3) := by decide +kernel
theorem dX8_clear_10 : decode cX8_clear 10 = .ok (.aload_n 0, 1) := by decide +kernel
theorem dX8_clear_11 : decode cX8_clear 11 = .ok (.iconst 0, 1) := by decide +kernel
theorem dX8_clear_12 : decode cX8_clear 12 = .ok (.putfield 33, 3) := by decide +kernel
theorem dX8_clear_15 : decode cX8_clear 15 = .ok (.return_, 1) := by decide +kernel
theorem dX8_addSyncReply_0 : decode cX8_addSyncReply 0 = .ok (.iload_n 2, 1) := by decide +kernel
theorem dX8_addSyncReply_1 : decode cX8_addSyncReply 1 = .ok (.aload_n 0, 1) := by decide +kernel
theorem dX8_addSyncReply_2 : decode cX8_addSyncReply 2 = .ok (.getfield 36, 3) := by decide +kernel
theorem dX8_addSyncReply_5 : decode cX8_addSyncReply 5 = .ok (.if_icmp .eq 13, 3) := by decide +kernel
theorem dX8_addSyncReply_8 : decode cX8_addSyncReply 8 = .ok (.aload_n 0, 1) := by decide +kernel
theorem dX8_addSyncReply_9 : decode cX8_addSyncReply 9 = .ok (.iload_n 2, 1) := by decide +kernel
theorem dX8_addSyncReply_10 : decode cX8_addSyncReply 10 = .ok (.putfield 36, 3) := by decide +kernel
theorem dX8_addSyncReply_13 : decode cX8_addSyncReply 13 = .ok (.aload_n 0, 1) := by decide +kernel
theorem dX8_addSyncReply_14 : decode cX8_addSyncReply 14 = .ok (.iconst 0, 1) := by decide +kernel
theorem dX8_addSyncReply_15 : decode cX8_addSyncReply 15 = .ok (.putfield 30, 3) := by decide +kernel
theorem dX8_addSyncReply_18 : decode cX8_addSyncReply 18 = .ok (.aload_n 0, 1) := by decide +kernel
theorem dX8_addSyncReply_19 : decode cX8_addSyncReply 19 = .ok (.dup, 1) := by decide +kernel
theorem dX8_addSyncReply_20 : decode cX8_addSyncReply 20 = .ok (.getfield 30, 3) := by decide +kernel
theorem dX8_addSyncReply_23 : decode cX8_addSyncReply 23 = .ok (.iconst 1, 1) := by decide +kernel
theorem dX8_addSyncReply_24 : decode cX8_addSyncReply 24 = .ok (.iload_n 1, 1) := by decide +kernel
theorem dX8_addSyncReply_25 : decode cX8_addSyncReply 25 = .ok (.ishl, 1) := by decide +kernel
theorem dX8_addSyncReply_26 : decode cX8_addSyncReply 26 = .ok (.ior, 1) := by decide +kernel
theorem dX8_addSyncReply_27 : decode cX8_addSyncReply 27 = .ok (.putfield 30, 3) := by decide +kernel
theorem dX8_addSyncReply_30 : decode cX8_addSyncReply 30 = .ok (.return_, 1) := by decide +kernel
theorem dX8_addTurned_0 : decode cX8_addTurned 0 = .ok (.aload_n 0, 1) := by decide +kernel
theorem dX8_addTurned_1 : decode cX8_addTurned 1 = .ok (.dup, 1) := by decide +kernel
theorem dX8_addTurned_2 : decode cX8_addTurned 2 = .ok (.getfield 33, 3) := by decide +kernel
theorem dX8_addTurned_5 : decode cX8_addTurned 5 = .ok (.iconst 1, 1) := by decide +kernel
theorem dX8_addTurned_6 : decode cX8_addTurned 6 = .ok (.aload_n 1, 1) := by decide +kernel
theorem dX8_addTurned_7 : decode cX8_addTurned 7 = .ok (.getfield 39, 3) := by decide +kernel
theorem dX8_addTurned_10 : decode cX8_addTurned 10 = .ok (.ishl, 1) := by decide +kernel
theorem dX8_addTurned_11 : decode cX8_addTurned 11 = .ok (.ior, 1) := by decide +kernel
theorem dX8_addTurned_12 : decode cX8_addTurned 12 = .ok (.putfield 33, 3) := by decide +kernel
theorem dX8_addTurned_15 : decode cX8_addTurned 15 = .ok (.aload_n 0, 1) := by decide +kernel
theorem dX8_addTurned_16 : decode cX8_addTurned 16 = .ok (.getfield 9, 3) := by decide +kernel
theorem dX8_addTurned_19 : decode cX8_addTurned 19 = .ok (.aload_n 1, 1) := by decide +kernel
theorem dX8_addTurned_20 : decode cX8_addTurned 20 = .ok (.getfield 39, 3) := by decide +kernel
theorem dX8_addTurned_23 : decode cX8_addTurned 23 = .ok (.aload_n 1, 1) := by decide +kernel
theorem dX8_addTurned_24 : decode cX8_addTurned 24 = .ok (.getfield 44, 3) := by decide +kernel
theorem dX8_addTurned_27 : decode cX8_addTurned 27 = .ok (.aastore, 1) := by decide +kernel
theorem dX8_addTurned_28 : decode cX8_addTurned 28 = .ok (.aload_n 0, 1) := by decide +kernel
theorem dX8_addTurned_29 : decode cX8_addTurned 29 = .ok (.getfield 15, 3) := by decide +kernel
theorem dX8_addTurned_32 : decode cX8_addTurned 32 = .ok (.aload_n 1, 1) := by decide +kernel
theorem dX8_addTurned_33 : decode cX8_addTurned 33 = .ok (.getfield 39, 3) := by decide +kernel
theorem dX8_addTurned_36 : decode cX8_addTurned 36 = .ok (.aload_n 1, 1) := by decide +kernel
theorem dX8_addTurned_37 : decode cX8_addTurned 37 = .ok (.getfield 48, 3) := by decide +kernel
theorem dX8_addTurned_40 : decode cX8_addTurned 40 = .ok (.iastore, 1) := by decide +kernel
theorem dX8_addTurned_41 : decode cX8_addTurned 41 = .ok (.aload_n 0, 1) := by decide +kernel
theorem dX8_addTurned_42 : decode cX8_addTurned 42 = .ok (.getfield 21, 3) := by decide +kernel
theorem dX8_addTurned_45 : decode cX8_addTurned 45 = .ok (.aload_n 1, 1) := by decide +kernel
theorem dX8_addTurned_46 : decode cX8_addTurned 46 = .ok (.getfield 39, 3) := by decide +kernel
theorem dX8_addTurned_49 : decode cX8_addTurned 49 = .ok (.aaload, 1) := by decide +kernel
theorem dX8_addTurned_50 : decode cX8_addTurned 50 = .ok (.aload_n 1, 1) := by decide +kernel
theorem dX8_addTurned_51 : decode cX8_addTurned 51 = .ok (.getfield 51, 3) := by decide +kernel
theorem dX8_addTurned_54 : decode cX8_addTurned 54 = .ok (.invokevirtual 55, 3) := by decide +kernel
theorem dX8_addTurned_57 : decode cX8_addTurned 57 = .ok (.return_, 1) := by decide +kernel
theorem dX8_hasTurned_0 : decode cX8_hasTurned 0 = .ok (.aload_n 0, 1) := by decide +kernel
theorem dX8_hasTurned_1 : decode cX8_hasTurned 1 = .ok (.getfield 33, 3) := by decide +kernel
theorem dX8_hasTurned_4 : decode cX8_hasTurned 4 = .ok (.iconst 1, 1) := by decide +kernel
theorem dX8_hasTurned_5 : decode cX8_hasTurned 5 = .ok (.iload_n 1, 1) := by decide +kernel
theorem dX8_hasTurned_6 : decode cX8_hasTurned 6 = .ok (.ishl, 1) := by decide +kernel
theorem dX8_hasTurned_7 : decode cX8_hasTurned 7 = .ok (.iand, 1) := by decide +kernel
theorem dX8_hasTurned_8 : decode cX8_hasTurned 8 = .ok (.ifCond .eq 7, 3) := by decide +kernel
theorem dX8_hasTurned_11 : decode cX8_hasTurned 11 = .ok (.iconst 1, 1) := by decide +kernel
theorem dX8_hasTurned_12 : decode cX8_hasTurned 12 = .ok (.goto 4, 3) := by decide +kernel
theorem dX8_hasTurned_15 : decode cX8_hasTurned 15 = .ok (.iconst 0, 1) := by decide +kernel
theorem dX8_hasTurned_16 : decode cX8_hasTurned 16 = .ok (.ireturn, 1) := by decide +kernel
theorem dX9_init_0 : decode cX9_init 0 = .ok (.aload_n 0, 1) := by decide +kernel
theorem dX9_init_1 : decode cX9_init 1 = .ok (.invokespecial 1, 3) := by decide +kernel
theorem dX9_init_4 : decode cX9_init 4 = .ok (.aload_n 0, 1) := by decide +kernel
theorem dX9_init_5 : decode cX9_init 5 = .ok (.iload_n 1, 1) := by decide +kernel
theorem dX9_init_6 : decode cX9_init 6 = .ok (.putfield 7, 3) := by decide +kernel
theorem dX9_init_9 : decode cX9_init 9 = .ok (.aload_n 0, 1) := by decide +kernel
theorem dX9_init_10 : decode cX9_init 10 = .ok (.iload_n 2, 1) := by decide +kernel
theorem dX9_init_11 : decode cX9_init 11 = .ok (.putfield 13, 3) := by decide +kernel
theorem dX9_init_14 : decode cX9_init 14 = .ok (.return_, 1) := by decide +kernel
theorem dX9_isSame_0 : decode cX9_isSame 0 = .ok (.aload_n 0, 1) := by decide +kernel
theorem dX9_isSame_1 : decode cX9_isSame 1 = .ok (.getfield 7, 3) := by decide +kernel
theorem dX9_isSame_4 : decode cX9_isSame 4 = .ok (.aload_n 1, 1) := by decide +kernel
theorem dX9_isSame_5 : decode cX9_isSame 5 = .ok (.getfield 7, 3) := by decide +kernel
theorem dX9_isSame_8 : decode cX9_isSame 8 = .ok (.if_icmp .ne 18, 3) := by decide +kernel
theorem dX9_isSame_11 : decode cX9_isSame 11 = .ok (.aload_n 0, 1) := by decide +kernel
theorem dX9_isSame_12 : decode cX9_isSame 12 = .ok (.getfield 13, 3) := by decide +kernel
theorem dX9_isSame_15 : decode cX9_isSame 15 = .ok (.aload_n 1, 1) := by decide +kernel
theorem dX9_isSame_16 : decode cX9_isSame 16 = .ok (.getfield 13, 3) := by decide +kernel
theorem dX9_isSame_19 : decode cX9_isSame 19 = .ok (.if_icmp .ne 7, 3) := by decide +kernel
theorem dX9_isSame_22 : decode cX9_isSame 22 = .ok (.iconst 1, 1) := by decide +kernel
theorem dX9_isSame_23 : decode cX9_isSame 23 = .ok (.goto 4, 3) := by decide +kernel
theorem dX9_isSame_26 : decode cX9_isSame 26 = .ok (.iconst 0, 1) := by decide +kernel
theorem dX9_isSame_27 : decode cX9_isSame 27 = .ok (.ireturn, 1) := by decide +kernel
theorem dX9_isBehind_0 : decode cX9_isBehind 0 = .ok (.aload_n 0, 1) := by decide +kernel
theorem dX9_isBehind_1 : decode cX9_isBehind 1 = .ok (.getfield 7, 3) := by decide +kernel
theorem dX9_isBehind_4 : decode cX9_isBehind 4 = .ok (.aload_n 1, 1) := by decide +kernel
theorem dX9_isBehind_5 : decode cX9_isBehind 5 = .ok (.getfield 7, 3) := by decide +kernel
theorem dX9_isBehind_8 : decode cX9_isBehind 8 = .ok (.if_icmp .gt 26, 3) := by decide +kernel
theorem dX9_isBehind_11 : decode cX9_isBehind 11 = .ok (.aload_n 0, 1) := by decide +kernel
theorem dX9_isBehind_12 : decode cX9_isBehind 12 = .ok (.getfield 13, 3) := by decide +kernel
theorem dX9_isBehind_15 : decode cX9_isBehind 15 = .ok (.aload_n 1, 1) := by decide +kernel
theorem dX9_isBehind_16 : decode cX9_isBehind 16 = .ok (.getfield 13, 3) := by decide +kernel
theorem dX9_isBehind_19 : decode cX9_isBehind 19 = .ok (.if_icmp .gt 15, 3) := by decide +kernel
theorem dX9_isBehind_22 : decode cX9_isBehind 22 = .ok (.aload_n 0, 1) := by decide +kernel
theorem dX9_isBehind_23 : decode cX9_isBehind 23 = .ok (.aload_n 1, 1) := by decide +kernel
theorem dX9_isBehind_24 : decode cX9_isBehind 24 = .ok (.invokevirtual 16, 3) := by decide +kernel
theorem dX9_isBehind_27 : decode cX9_isBehind 27 = .ok (.ifCond .ne 7, 3) := by decide +kernel
theorem dX9_isBehind_30 : decode cX9_isBehind 30 = .ok (.iconst 1, 1) := by decide +kernel
theorem dX9_isBehind_31 : decode cX9_isBehind 31 = .ok (.goto 4, 3) := by decide +kernel
theorem dX9_isBehind_34 : decode cX9_isBehind 34 = .ok (.iconst 0, 1) := by decide +kernel
theorem dX9_isBehind_35 : decode cX9_isBehind 35 = .ok (.ireturn, 1) := by decide +kernel
theorem dX9_isLater_0 : decode cX9_isLater 0 = .ok (.aload_n 0, 1) := by decide +kernel
theorem dX9_isLater_1 : decode cX9_isLater 1 = .ok (.getfield 13, 3) := by decide +kernel
theorem dX9_isLater_4 : decode cX9_isLater 4 = .ok (.aload_n 1, 1) := by decide +kernel
theorem dX9_isLater_5 : decode cX9_isLater 5 = .ok (.getfield 13, 3) := by decide +kernel
theorem dX9_isLater_8 : decode cX9_isLater 8 = .ok (.if_icmp .gt 25, 3) := by decide +kernel
theorem dX9_isLater_11 : decode cX9_isLater 11 = .ok (.aload_n 0, 1) := by decide +kernel
theorem dX9_isLater_12 : decode cX9_isLater 12 = .ok (.getfield 13, 3) := by decide +kernel
theorem dX9_isLater_15 : decode cX9_isLater 15 = .ok (.aload_n 1, 1) := by decide +kernel
theorem dX9_isLater_16 : decode cX9_isLater 16 = .ok (.getfield 13, 3) := by decide +kernel
theorem dX9_isLater_19 : decode cX9_isLater 19 = .ok (.if_icmp .ne 18, 3) := by decide +kernel
theorem dX9_isLater_22 : decode cX9_isLater 22 = .ok (.aload_n 0, 1) := by decide +kernel
theorem dX9_isLater_23 : decode cX9_isLater 23 = .ok (.getfield 7, 3) := by decide +kernel
theorem dX9_isLater_26 : decode cX9_isLater 26 = .ok (.aload_n 1, 1) := by decide +kernel
theorem dX9_isLater_27 : decode cX9_isLater 27 = .ok (.getfield 7, 3) := by decide +kernel
theorem dX9_isLater_30 : decode cX9_isLater 30 = .ok (.if_icmp .le 7, 3) := by decide +kernel
theorem dX9_isLater_33 : decode cX9_isLater 33 = .ok (.iconst 1, 1) := by decide +kernel
theorem dX9_isLater_34 : decode cX9_isLater 34 = .ok (.goto 4, 3) := by decide +kernel
theorem dX9_isLater_37 : decode cX9_isLater 37 = .ok (.iconst 0, 1) := by decide +kernel
theorem dX9_isLater_38 : decode cX9_isLater 38 = .ok (.ireturn, 1) := by decide +kernel
theorem dX9_joinedWith_0 : decode cX9_joinedWith 0 = .ok (.new 8, 3) := by decide +kernel
theorem dX9_joinedWith_3 : decode cX9_joinedWith 3 = .ok (.dup, 1) := by decide +kernel
theorem dX9_joinedWith_4 : decode cX9_joinedWith 4 = .ok (.aload_n 0, 1) := by decide +kernel
theorem dX9_joinedWith_5 : decode cX9_joinedWith 5 = .ok (.getfield 7, 3) := by decide +kernel
theorem dX9_joinedWith_8 : decode cX9_joinedWith 8 = .ok (.aload_n 1, 1) := by decide +kernel
theorem dX9_joinedWith_9 : decode cX9_joinedWith 9 = .ok (.getfield 7, 3) := by decide +kernel
theorem dX9_joinedWith_12 : decode cX9_joinedWith 12 = .ok (.invokestatic 20, 3) := by decide +kernel
theorem dX9_joinedWith_15 : decode cX9_joinedWith 15 = .ok (.aload_n 0, 1) := by decide +kernel
theorem dX9_joinedWith_16 : decode cX9_joinedWith 16 = .ok (.getfield 13, 3) := by decide +kernel
theorem dX9_joinedWith_19 : decode cX9_joinedWith 19 = .ok (.aload_n 1, 1) := by decide +kernel
theorem dX9_joinedWith_20 : decode cX9_joinedWith 20 = .ok (.getfield 13, 3) := by decide +kernel
theorem dX9_joinedWith_23 : decode cX9_joinedWith 23 = .ok (.invokestatic 20, 3) := by decide +kernel
theorem dX9_joinedWith_26 : decode cX9_joinedWith 26 = .ok (.invokespecial 26, 3) := by decide +kernel
theorem dX9_joinedWith_29 : decode cX9_joinedWith 29 = .ok (.areturn, 1) := by decide +kernel
theorem dX9_leader_0 : decode cX9_leader 0 = .ok (.aload_n 0, 1) := by decide +kernel
theorem dX9_leader_1 : decode cX9_leader 1 = .ok (.getfield 7, 3) := by decide +kernel
theorem dX9_leader_4 : decode cX9_leader 4 = .ok (.iload_n 1, 1) := by decide +kernel
theorem dX9_leader_5 : decode cX9_leader 5 = .ok (.invokestatic 29, 3) := by decide +kernel
theorem dX9_leader_8 : decode cX9_leader 8 = .ok (.ireturn, 1) := by decide +kernel
theorem dX10_init_0 : decode cX10_init 0 = .ok (.aload_n 0, 1) := by decide +kernel
theorem dX10_init_1 : decode cX10_init 1 = .ok (.invokespecial 3, 3) := by decide +kernel
theorem dX10_init_4 : decode cX10_init 4 = .ok (.aload_n 0, 1) := by decide +kernel
theorem dX10_init_5 : decode cX10_init 5 = .ok (.bipush 8, 2) := by decide +kernel
theorem dX10_init_7 : decode cX10_init 7 = .ok (.newarray .int, 2) := by decide +kernel
theorem dX10_init_9 : decode cX10_init 9 = .ok (.putfield 9, 3) := by decide +kernel
theorem dX10_init_12 : decode cX10_init 12 = .ok (.aload_n 0, 1) := by decide +kernel
theorem dX10_init_13 : decode cX10_init 13 = .ok (.iconst 4, 1) := by decide +kernel
theorem dX10_init_14 : decode cX10_init 14 = .ok (.newarray .int, 2) := by decide +kernel
theorem dX10_init_16 : decode cX10_init 16 = .ok (.putfield 15, 3) := by decide +kernel
theorem dX10_init_19 : decode cX10_init 19 = .ok (.aload_n 0, 1) := by decide +kernel
theorem dX10_init_20 : decode cX10_init 20 = .ok (.sipush 513, 3) := by decide +kernel
theorem dX10_init_23 : decode cX10_init 23 = .ok (.newarray .int, 2) := by decide +kernel
theorem dX10_init_25 : decode cX10_init 25 = .ok (.putfield 18, 3) := by decide +kernel
theorem dX10_init_28 : decode cX10_init 28 = .ok (.aload_n 0, 1) := by decide +kernel
theorem dX10_init_29 : decode cX10_init 29 = .ok (.sipush 513, 3) := by decide +kernel
theorem dX10_init_32 : decode cX10_init 32 = .ok (.newarray .int, 2) := by decide +kernel
theorem dX10_init_34 : decode cX10_init 34 = .ok (.putfield 21, 3) := by decide +kernel
theorem dX10_init_37 : decode cX10_init 37 = .ok (.aload_n 0, 1) := by decide +kernel
theorem dX10_init_38 : decode cX10_init 38 = .ok (.aload_n 1, 1) := by decide +kernel
theorem dX10_init_39 : decode cX10_init 39 = .ok (.putfield 24, 3) := by decide +kernel
theorem dX10_init_42 : decode cX10_init 42 = .ok (.return_, 1) := by decide +kernel
theorem dX10_execute_0 : decode cX10_execute 0 = .ok (.aload_n 0, 1) := by decide +kernel
theorem dX10_execute_1 : decode cX10_execute 1 = .ok (.getfield 9, 3) := by decide +kernel
theorem dX10_execute_4 : decode cX10_execute 4 = .ok (.iconst 0, 1) := by decide +kernel
theorem dX10_execute_5 : decode cX10_execute 5 = .ok (.invokestatic 28, 3) := by decide +kernel
theorem dX10_execute_8 : decode cX10_execute 8 = .ok (.aload_n 0, 1) := by decide +kernel
theorem dX10_execute_9 : decode cX10_execute 9 = .ok (.getfield 15, 3) := by decide +kernel
theorem dX10_execute_12 : decode cX10_execute 12 = .ok (.iconst 0, 1) := by decide +kernel
theorem dX10_execute_13 : decode cX10_execute 13 = .ok (.invokestatic 28, 3) := by decide +kernel
theorem dX10_execute_16 : decode cX10_execute 16 = .ok (.aload_n 0, 1) := by decide +kernel
theorem dX10_execute_17 : decode cX10_execute 17 = .ok (.getfield 18, 3) := by decide +kernel
theorem dX10_execute_20 : decode cX10_execute 20 = .ok (.iconst 0, 1) := by decide +kernel
theorem dX10_execute_21 : decode cX10_execute 21 = .ok (.invokestatic 28, 3) := by decide +kernel
theorem dX10_execute_24 : decode cX10_execute 24 = .ok (.iconst 1, 1) := by decide +kernel
theorem dX10_execute_25 : decode cX10_execute 25 = .ok (.istore_n 3, 1) := by decide +kernel
theorem dX10_execute_26 : decode cX10_execute 26 = .ok (.iload_n 3, 1) := by decide +kernel
theorem dX10_execute_27 : decode cX10_execute 27 = .ok (.iload_n 2, 1) := by decide +kernel
theorem dX10_execute_28 : decode cX10_execute 28 = .ok (.if_icmp .gt 36, 3) := by decide +kernel
theorem dX10_execute_31 : decode cX10_execute 31 = .ok (.aload_n 1, 1) := by decide +kernel
theorem dX10_execute_32 : decode cX10_execute 32 = .ok (.iload_n 3, 1) := by decide +kernel
theorem dX10_execute_33 : decode cX10_execute 33 = .ok (.invokevirtual 34, 3) := by decide +kernel
theorem dX10_execute_36 : decode cX10_execute 36 = .ok (.istore 4, 2) := by decide +kernel
theorem dX10_execute_38 : decode cX10_execute 38 = .ok (.iload 4, 2) := by decide +kernel
theorem dX10_execute_40 : decode cX10_execute 40 = .ok (.ifCond .eq 18, 3) := by decide +kernel
theorem dX10_execute_43 : decode cX10_execute 43 = .ok (.aload_n 0, 1) := by decide +kernel
theorem dX10_execute_44 : decode cX10_execute 44 = .ok (.iload 4, 2) := by decide +kernel
theorem dX10_execute_46 : decode cX10_execute 46 = .ok (.invokevirtual 40, 3) := by decide +kernel
theorem dX10_execute_49 : decode cX10_execute 49 = .ok (.ifCond .eq 9, 3) := by decide +kernel
theorem dX10_execute_52 : decode cX10_execute 52 = .ok (.aload_n 0, 1) := by decide +kernel
theorem dX10_execute_53 : decode cX10_execute 53 = .ok (.iload 4, 2) := by decide +kernel
theorem dX10_execute_55 : decode cX10_execute 55 = .ok (.invokevirtual 44, 3) := by decide +kernel
theorem dX10_execute_58 : decode cX10_execute 58 = .ok (.iinc 3 1, 3) := by decide +kernel
theorem dX10_execute_61 : decode cX10_execute 61 = .ok (.goto (-35), 3) := by decide +kernel
theorem dX10_execute_64 : decode cX10_execute 64 = .ok (.return_, 1) := by decide +kernel
theorem dX10_hasExecuted_0 : decode cX10_hasExecuted 0 = .ok (.aload_n 0, 1) := by decide +kernel
theorem dX10_hasExecuted_1 : decode cX10_hasExecuted 1 = .ok (.getfield 18, 3) := by decide +kernel
theorem dX10_hasExecuted_4 : decode cX10_hasExecuted 4 = .ok (.iload_n 1, 1) := by decide +kernel
theorem dX10_hasExecuted_5 : decode cX10_hasExecuted 5 = .ok (.iaload, 1) := by decide +kernel
theorem dX10_hasExecuted_6 : decode cX10_hasExecuted 6 = .ok (.ifCond .eq 7, 3) := by decide +kernel
theorem dX10_hasExecuted_9 : decode cX10_hasExecuted 9 = .ok (.iconst 1, 1) := by decide +kernel
theorem dX10_hasExecuted_10 : decode cX10_hasExecuted 10 = .ok (.goto 4, 3) := by decide +kernel
theorem dX10_hasExecuted_13 : decode cX10_hasExecuted 13 = .ok (.iconst 0, 1) := by decide +kernel
theorem dX10_hasExecuted_14 : decode cX10_hasExecuted 14 = .ok (.ireturn, 1) := by decide +kernel
theorem dX10_isLatest_0 : decode cX10_isLatest 0 = .ok (.aload_n 0, 1) := by decide +kernel
theorem dX10_isLatest_1 : decode cX10_isLatest 1 = .ok (.getfield 15, 3) := by decide +kernel
theorem dX10_isLatest_4 : decode cX10_isLatest 4 = .ok (.aload_n 0, 1) := by decide +kernel
theorem dX10_isLatest_5 : decode cX10_isLatest 5 = .ok (.getfield 24, 3) := by decide +kernel
theorem dX10_isLatest_8 : decode cX10_isLatest 8 = .ok (.getfield 48, 3) := by decide +kernel
theorem dX10_isLatest_11 : decode cX10_isLatest 11 = .ok (.iload_n 1, 1) := by decide +kernel
theorem dX10_isLatest_12 : decode cX10_isLatest 12 = .ok (.iaload, 1) := by decide +kernel
theorem dX10_isLatest_13 : decode cX10_isLatest 13 = .ok (.iaload, 1) := by decide +kernel
theorem dX10_isLatest_14 : decode cX10_isLatest 14 = .ok (.iload_n 1, 1) := by decide +kernel
theorem dX10_isLatest_15 : decode cX10_isLatest 15 = .ok (.if_icmp .ne 7, 3) := by decide +kernel
theorem dX10_isLatest_18 : decode cX10_isLatest 18 = .ok (.iconst 1, 1) := by decide +kernel
theorem dX10_isLatest_19 : decode cX10_isLatest 19 = .ok (.goto 4, 3) := by decide +kernel
theorem dX10_isLatest_22 : decode cX10_isLatest 22 = .ok (.iconst 0, 1) := by decide +kernel
theorem dX10_isLatest_23 : decode cX10_isLatest 23 = .ok (.ireturn, 1) := by decide +kernel
theorem dX10_answerTo_0 : decode cX10_answerTo 0 = .ok (.aload_n 0, 1) := by decide +kernel
theorem dX10_answerTo_1 : decode cX10_answerTo 1 = .ok (.getfield 21, 3) := by decide +kernel
theorem dX10_answerTo_4 : decode cX10_answerTo 4 = .ok (.iload_n 1, 1) := by decide +kernel
theorem dX10_answerTo_5 : decode cX10_answerTo 5 = .ok (.iaload, 1) := by decide +kernel
theorem dX10_answerTo_6 : decode cX10_answerTo 6 = .ok (.ireturn, 1) := by decide +kernel
theorem dX10_isNew_0 : decode cX10_isNew 0 = .ok (.aload_n 0, 1) := by decide +kernel
theorem dX10_isNew_1 : decode cX10_isNew 1 = .ok (.getfield 24, 3) := by decide +kernel
theorem dX10_isNew_4 : decode cX10_isNew 4 = .ok (.getfield 53, 3) := by decide +kernel
theorem dX10_isNew_7 : decode cX10_isNew 7 = .ok (.iload_n 1, 1) := by decide +kernel
theorem dX10_isNew_8 : decode cX10_isNew 8 = .ok (.iaload, 1) := by decide +kernel
theorem dX10_isNew_9 : decode cX10_isNew 9 = .ok (.aload_n 0, 1) := by decide +kernel
theorem dX10_isNew_10 : decode cX10_isNew 10 = .ok (.getfield 24, 3) := by decide +kernel
theorem dX10_isNew_13 : decode cX10_isNew 13 = .ok (.getfield 53, 3) := by decide +kernel
theorem dX10_isNew_16 : decode cX10_isNew 16 = .ok (.aload_n 0, 1) := by decide +kernel
theorem dX10_isNew_17 : decode cX10_isNew 17 = .ok (.getfield 15, 3) := by decide +kernel
theorem dX10_isNew_20 : decode cX10_isNew 20 = .ok (.aload_n 0, 1) := by decide +kernel
theorem dX10_isNew_21 : decode cX10_isNew 21 = .ok (.getfield 24, 3) := by decide +kernel
theorem dX10_isNew_24 : decode cX10_isNew 24 = .ok (.getfield 48, 3) := by decide +kernel
theorem dX10_isNew_27 : decode cX10_isNew 27 = .ok (.iload_n 1, 1) := by decide +kernel
theorem dX10_isNew_28 : decode cX10_isNew 28 = .ok (.iaload, 1) := by decide +kernel
theorem dX10_isNew_29 : decode cX10_isNew 29 = .ok (.iaload, 1) := by decide +kernel
theorem dX10_isNew_30 : decode cX10_isNew 30 = .ok (.iaload, 1) := by decide +kernel
theorem dX10_isNew_31 : decode cX10_isNew 31 = .ok (.if_icmp .le 7, 3) := by decide +kernel
theorem dX10_isNew_34 : decode cX10_isNew 34 = .ok (.iconst 1, 1) := by decide +kernel
theorem dX10_isNew_35 : decode cX10_isNew 35 = .ok (.goto 4, 3) := by decide +kernel
theorem dX10_isNew_38 : decode cX10_isNew 38 = .ok (.iconst 0, 1) := by decide +kernel
theorem dX10_isNew_39 : decode cX10_isNew 39 = .ok (.ireturn, 1) := by decide +kernel
theorem dX10_executeRequest_0 : decode cX10_executeRequest 0 = .ok (.aload_n 0, 1) := by decide +kernel
theorem dX10_executeRequest_1 : decode cX10_executeRequest 1 = .ok (.getfield 24, 3) := by decide +kernel
theorem dX10_executeRequest_4 : decode cX10_executeRequest 4 = .ok (.getfield 56, 3) := by decide +kernel
theorem dX10_executeRequest_7 : decode cX10_executeRequest 7 = .ok (.iload_n 1, 1) := by decide +kernel
theorem dX10_executeRequest_8 : decode cX10_executeRequest 8 = .ok (.iaload, 1) := by decide +kernel
theorem dX10_executeRequest_9 : decode cX10_executeRequest 9 = .ok (.istore_n 2, 1) := by decide +kernel
theorem dX10_executeRequest_10 : decode cX10_executeRequest 10 = .ok (.aload_n 0, 1) := by decide +kernel
theorem dX10_executeRequest_11 : decode cX10_executeRequest 11 = .ok (.getfield 15, 3) := by decide +kernel
theorem dX10_executeRequest_14 : decode cX10_executeRequest 14 = .ok (.aload_n 0, 1) := by decide +kernel
theorem dX10_executeRequest_15 : decode cX10_executeRequest 15 = .ok (.getfield 24, 3) := by decide +kernel
theorem dX10_executeRequest_18 : decode cX10_executeRequest 18 = .ok (.getfield 48, 3) := by decide +kernel
theorem dX10_executeRequest_21 : decode cX10_executeRequest 21 = .ok (.iload_n 1, 1) := by decide +kernel
theorem dX10_executeRequest_22 : decode cX10_executeRequest 22 = .ok (.iaload, 1) := by decide +kernel
theorem dX10_executeRequest_23 : decode cX10_executeRequest 23 = .ok (.iload_n 1, 1) := by decide +kernel
theorem dX10_executeRequest_24 : decode cX10_executeRequest 24 = .ok (.iastore, 1) := by decide +kernel
theorem dX10_executeRequest_25 : decode cX10_executeRequest 25 = .ok (.aload_n 0, 1) := by decide +kernel
theorem dX10_executeRequest_26 : decode cX10_executeRequest 26 = .ok (.getfield 18, 3) := by decide +kernel
theorem dX10_executeRequest_29 : decode cX10_executeRequest 29 = .ok (.iload_n 1, 1) := by decide +kernel
theorem dX10_executeRequest_30 : decode cX10_executeRequest 30 = .ok (.iconst 1, 1) := by decide +kernel
theorem dX10_executeRequest_31 : decode cX10_executeRequest 31 = .ok (.iastore, 1) := by decide +kernel
theorem dX10_executeRequest_32 : decode cX10_executeRequest 32 = .ok (.aload_n 0, 1) := by decide +kernel
theorem dX10_executeRequest_33 : decode cX10_executeRequest 33 = .ok (.getfield 21, 3) := by decide +kernel
theorem dX10_executeRequest_36 : decode cX10_executeRequest 36 = .ok (.iload_n 1, 1) := by decide +kernel
theorem dX10_executeRequest_37 : decode cX10_executeRequest 37 = .ok (.aload_n 0, 1) := by decide +kernel
theorem dX10_executeRequest_38 : decode cX10_executeRequest 38 = .ok (.getfield 9, 3) := by decide +kernel
theorem dX10_executeRequest_41 : decode cX10_executeRequest 41 = .ok (.iload_n 2, 1) := by decide +kernel
theorem dX10_executeRequest_42 : decode cX10_executeRequest 42 = .ok (.iaload, 1) := by decide +kernel
theorem dX10_executeRequest_43 : decode cX10_executeRequest 43 = .ok (.iastore, 1) := by decide +kernel
theorem dX10_executeRequest_44 : decode cX10_executeRequest 44 = .ok (.aload_n 0, 1) := by decide +kernel
theorem dX10_executeRequest_45 : decode cX10_executeRequest 45 = .ok (.getfield 24, 3) := by decide +kernel
theorem dX10_executeRequest_48 : decode cX10_executeRequest 48 = .ok (.getfield 59, 3) := by decide +kernel
theorem dX10_executeRequest_51 : decode cX10_executeRequest 51 = .ok (.iload_n 1, 1) := by decide +kernel
theorem dX10_executeRequest_52 : decode cX10_executeRequest 52 = .ok (.iaload, 1) := by decide +kernel
theorem dX10_executeRequest_53 : decode cX10_executeRequest 53 = .ok (.iconst 1, 1) := by decide +kernel
theorem dX10_executeRequest_54 : decode cX10_executeRequest 54 = .ok (.if_icmp .ne 21, 3) := by decide +kernel
theorem dX10_executeRequest_57 : decode cX10_executeRequest 57 = .ok (.aload_n 0, 1) := by decide +kernel
theorem dX10_executeRequest_58 : decode cX10_executeRequest 58 = .ok (.getfield 9, 3) := by decide +kernel
theorem dX10_executeRequest_61 : decode cX10_executeRequest 61 = .ok (.iload_n 2, 1) := by decide +kernel
theorem dX10_executeRequest_62 : decode cX10_executeRequest 62 = .ok (.aload_n 0, 1) := by decide +kernel
theorem dX10_executeRequest_63 : decode cX10_executeRequest 63 = .ok (.getfield 24, 3) := by decide +kernel
theorem dX10_executeRequest_66 : decode cX10_executeRequest 66 = .ok (.getfield 62, 3) := by decide +kernel
theorem dX10_executeRequest_69 : decode cX10_executeRequest 69 = .ok (.iload_n 1, 1) := by decide +kernel
theorem dX10_executeRequest_70 : decode cX10_executeRequest 70 = .ok (.iaload, 1) := by decide +kernel
theorem dX10_executeRequest_71 : decode cX10_executeRequest 71 = .ok (.iastore, 1) := by decide +kernel
theorem dX10_executeRequest_72 : decode cX10_executeRequest 72 = .ok (.goto 34, 3) := by decide +kernel
theorem dX10_executeRequest_75 : decode cX10_executeRequest 75 = .ok (.aload_n 0, 1) := by decide +kernel
theorem dX10_executeRequest_76 : decode cX10_executeRequest 76 = .ok (.getfield 24, 3) := by decide +kernel
theorem dX10_executeRequest_79 : decode cX10_executeRequest 79 = .ok (.getfield 59, 3) := by decide +kernel
theorem dX10_executeRequest_82 : decode cX10_executeRequest 82 = .ok (.iload_n 1, 1) := by decide +kernel
theorem dX10_executeRequest_83 : decode cX10_executeRequest 83 = .ok (.iaload, 1) := by decide +kernel
theorem dX10_executeRequest_84 : decode cX10_executeRequest 84 = .ok (.iconst 2, 1) := by decide +kernel
theorem dX10_executeRequest_85 : decode cX10_executeRequest 85 = .ok (.if_icmp .ne 21, 3) := by decide +kernel
theorem dX10_executeRequest_88 : decode cX10_executeRequest 88 = .ok (.aload_n 0, 1) := by decide +kernel
theorem dX10_executeRequest_89 : decode cX10_executeRequest 89 = .ok (.getfield 9, 3) := by decide +kernel
theorem dX10_executeRequest_92 : decode cX10_executeRequest 92 = .ok (.iload_n 2, 1) := by decide +kernel
theorem dX10_executeRequest_93 : decode cX10_executeRequest 93 = .ok (.dup2, 1) := by decide +kernel
theorem dX10_executeRequest_94 : decode cX10_executeRequest 94 = .ok (.iaload, 1) := by decide +kernel
theorem dX10_executeRequest_95 : decode cX10_executeRequest 95 = .ok (.aload_n 0, 1) := by decide +kernel
theorem dX10_executeRequest_96 : decode cX10_executeRequest 96 = .ok (.getfield 24, 3) := by decide +kernel
theorem dX10_executeRequest_99 : decode cX10_executeRequest 99 = .ok (.getfield 62, 3) := by decide +kernel
theorem dX10_executeRequest_102 : decode cX10_executeRequest 102 = .ok (.iload_n 1, 1) := by decide +kernel
theorem dX10_executeRequest_103 : decode cX10_executeRequest 103 = .ok (.iaload, 1) := by decide +kernel
theorem dX10_executeRequest_104 : decode cX10_executeRequest 104 = .ok (.iadd, 1) := by decide +kernel
theorem dX10_executeRequest_105 : decode cX10_executeRequest 105 = .ok (.iastore, 1) := by decide +kernel
theorem dX10_executeRequest_106 : decode cX10_executeRequest 106 = .ok (.return_, 1) := by decide +kernel
theorem dX11_init_0 : decode cX11_init 0 = .ok (.aload_n 0, 1) := by decide +kernel
theorem dX11_init_1 : decode cX11_init 1 = .ok (.invokespecial 1, 3) := by decide +kernel
theorem dX11_init_4 : decode cX11_init 4 = .ok (.aload_n 0, 1) := by decide +kernel
theorem dX11_init_5 : decode cX11_init 5 = .ok (.iconst 3, 1) := by decide +kernel
theorem dX11_init_6 : decode cX11_init 6 = .ok (.iconst 2, 1) := by decide +kernel
theorem dX11_init_7 : decode cX11_init 7 = .ok (.iload_n 1, 1) := by decide +kernel
theorem dX11_init_8 : decode cX11_init 8 = .ok (.iconst 3, 1) := by decide +kernel
theorem dX11_init_9 : decode cX11_init 9 = .ok (.invokestatic 7, 3) := by decide +kernel
theorem dX11_init_12 : decode cX11_init 12 = .ok (.imul, 1) := by decide +kernel
theorem dX11_init_13 : decode cX11_init 13 = .ok (.iadd, 1) := by decide +kernel
theorem dX11_init_14 : decode cX11_init 14 = .ok (.putfield 13, 3) := by decide +kernel
theorem dX11_init_17 : decode cX11_init 17 = .ok (.aload_n 0, 1) := by decide +kernel
theorem dX11_init_18 : decode cX11_init 18 = .ok (.new 19, 3) := by decide +kernel
theorem dX11_init_21 : decode cX11_init 21 = .ok (.dup, 1) := by decide +kernel
theorem dX11_init_22 : decode cX11_init 22 = .ok (.invokespecial 21, 3) := by decide +kernel
theorem dX11_init_25 : decode cX11_init 25 = .ok (.putfield 22, 3) := by decide +kernel
theorem dX11_init_28 : decode cX11_init 28 = .ok (.aload_n 0, 1) := by decide +kernel
theorem dX11_init_29 : decode cX11_init 29 = .ok (.new 26, 3) := by decide +kernel
theorem dX11_init_32 : decode cX11_init 32 = .ok (.dup, 1) := by decide +kernel
theorem dX11_init_33 : decode cX11_init 33 = .ok (.aload_n 0, 1) := by decide +kernel
theorem dX11_init_34 : decode cX11_init 34 = .ok (.getfield 22, 3) := by decide +kernel
theorem dX11_init_37 : decode cX11_init 37 = .ok (.invokespecial 28, 3) := by decide +kernel
theorem dX11_init_40 : decode cX11_init 40 = .ok (.putfield 31, 3) := by decide +kernel
theorem dX11_init_43 : decode cX11_init 43 = .ok (.aload_n 0, 1) := by decide +kernel
theorem dX11_init_44 : decode cX11_init 44 = .ok (.new 35, 3) := by decide +kernel
theorem dX11_init_47 : decode cX11_init 47 = .ok (.dup, 1) := by decide +kernel
theorem dX11_init_48 : decode cX11_init 48 = .ok (.invokespecial 37, 3) := by decide +kernel
theorem dX11_init_51 : decode cX11_init 51 = .ok (.putfield 38, 3) := by decide +kernel
theorem dX11_init_54 : decode cX11_init 54 = .ok (.aload_n 0, 1) := by decide +kernel
theorem dX11_init_55 : decode cX11_init 55 = .ok (.new 42, 3) := by decide +kernel
theorem dX11_init_58 : decode cX11_init 58 = .ok (.dup, 1) := by decide +kernel
theorem dX11_init_59 : decode cX11_init 59 = .ok (.invokespecial 44, 3) := by decide +kernel
theorem dX11_init_62 : decode cX11_init 62 = .ok (.putfield 45, 3) := by decide +kernel
theorem dX11_init_65 : decode cX11_init 65 = .ok (.aload_n 0, 1) := by decide +kernel
theorem dX11_init_66 : decode cX11_init 66 = .ok (.aload_n 0, 1) := by decide +kernel
theorem dX11_init_67 : decode cX11_init 67 = .ok (.getfield 13, 3) := by decide +kernel
theorem dX11_init_70 : decode cX11_init 70 = .ok (.anewarray 49, 3) := by decide +kernel
theorem dX11_init_73 : decode cX11_init 73 = .ok (.putfield 51, 3) := by decide +kernel
theorem dX11_init_76 : decode cX11_init 76 = .ok (.iconst 0, 1) := by decide +kernel
theorem dX11_init_77 : decode cX11_init 77 = .ok (.istore_n 2, 1) := by decide +kernel
theorem dX11_init_78 : decode cX11_init 78 = .ok (.iload_n 2, 1) := by decide +kernel
theorem dX11_init_79 : decode cX11_init 79 = .ok (.aload_n 0, 1) := by decide +kernel
theorem dX11_init_80 : decode cX11_init 80 = .ok (.getfield 13, 3) := by decide +kernel
theorem dX11_init_83 : decode cX11_init 83 = .ok (.if_icmp .ge 39, 3) := by decide +kernel
theorem dX11_init_86 : decode cX11_init 86 = .ok (.aload_n 0, 1) := by decide +kernel
theorem dX11_init_87 : decode cX11_init 87 = .ok (.getfield 51, 3) := by decide +kernel
theorem dX11_init_90 : decode cX11_init 90 = .ok (.iload_n 2, 1) := by decide +kernel
theorem dX11_init_91 : decode cX11_init 91 = .ok (.new 49, 3) := by decide +kernel
theorem dX11_init_94 : decode cX11_init 94 = .ok (.dup, 1) := by decide +kernel
theorem dX11_init_95 : decode cX11_init 95 = .ok (.iload_n 2, 1) := by decide +kernel
theorem dX11_init_96 : decode cX11_init 96 = .ok (.aload_n 0, 1) := by decide +kernel
theorem dX11_init_97 : decode cX11_init 97 = .ok (.getfield 13, 3) := by decide +kernel
theorem dX11_init_100 : decode cX11_init 100 = .ok (.aload_n 0, 1) := by decide +kernel
theorem dX11_init_101 : decode cX11_init 101 = .ok (.getfield 22, 3) := by decide +kernel
theorem dX11_init_104 : decode cX11_init 104 = .ok (.aload_n 0, 1) := by decide +kernel
theorem dX11_init_105 : decode cX11_init 105 = .ok (.getfield 31, 3) := by decide +kernel
theorem dX11_init_108 : decode cX11_init 108 = .ok (.aload_n 0, 1) := by decide +kernel
theorem dX11_init_109 : decode cX11_init 109 = .ok (.getfield 38, 3) := by decide +kernel
theorem dX11_init_112 : decode cX11_init 112 = .ok (.invokespecial 55, 3) := by decide +kernel
theorem dX11_init_115 : decode cX11_init 115 = .ok (.aastore, 1) := by decide +kernel
theorem dX11_init_116 : decode cX11_init 116 = .ok (.iinc 2 1, 3) := by decide +kernel
theorem dX11_init_119 : decode cX11_init 119 = .ok (.goto (-41), 3) := by decide +kernel
theorem dX11_init_122 : decode cX11_init 122 = .ok (.aload_n 0, 1) := by decide +kernel
theorem dX11_init_123 : decode cX11_init 123 = .ok (.iconst 4, 1) := by decide +kernel
theorem dX11_init_124 : decode cX11_init 124 = .ok (.anewarray 58, 3) := by decide +kernel
theorem dX11_init_127 : decode cX11_init 127 = .ok (.putfield 60, 3) := by decide +kernel
theorem dX11_init_130 : decode cX11_init 130 = .ok (.iconst 0, 1) := by decide +kernel
theorem dX11_init_131 : decode cX11_init 131 = .ok (.istore_n 2, 1) := by decide +kernel
theorem dX11_init_132 : decode cX11_init 132 = .ok (.iload_n 2, 1) := by decide +kernel
theorem dX11_init_133 : decode cX11_init 133 = .ok (.iconst 4, 1) := by decide +kernel
theorem dX11_init_134 : decode cX11_init 134 = .ok (.if_icmp .ge 26, 3) := by decide +kernel
theorem dX11_init_137 : decode cX11_init 137 = .ok (.aload_n 0, 1) := by decide +kernel
theorem dX11_init_138 : decode cX11_init 138 = .ok (.getfield 60, 3) := by decide +kernel
theorem dX11_init_141 : decode cX11_init 141 = .ok (.iload_n 2, 1) := by decide +kernel
theorem dX11_init_142 : decode cX11_init 142 = .ok (.new 58, 3) := by decide +kernel
theorem dX11_init_145 : decode cX11_init 145 = .ok (.dup, 1) := by decide +kernel
theorem dX11_init_146 : decode cX11_init 146 = .ok (.aload_n 0, 1) := by decide +kernel
theorem dX11_init_147 : decode cX11_init 147 = .ok (.getfield 13, 3) := by decide +kernel
theorem dX11_init_150 : decode cX11_init 150 = .ok (.invokespecial 64, 3) := by decide +kernel
theorem dX11_init_153 : decode cX11_init 153 = .ok (.aastore, 1) := by decide +kernel
theorem dX11_init_154 : decode cX11_init 154 = .ok (.iinc 2 1, 3) := by decide +kernel
theorem dX11_init_157 : decode cX11_init 157 = .ok (.goto (-25), 3) := by decide +kernel
theorem dX11_init_160 : decode cX11_init 160 = .ok (.aload_n 0, 1) := by decide +kernel
theorem dX11_init_161 : decode cX11_init 161 = .ok (.iconst 1, 1) := by decide +kernel
theorem dX11_init_162 : decode cX11_init 162 = .ok (.putfield 67, 3) := by decide +kernel
theorem dX11_init_165 : decode cX11_init 165 = .ok (.aload_n 0, 1) := by decide +kernel
theorem dX11_init_166 : decode cX11_init 166 = .ok (.iconst 1, 1) := by decide +kernel
theorem dX11_init_167 : decode cX11_init 167 = .ok (.putfield 71, 3) := by decide +kernel
theorem dX11_init_170 : decode cX11_init 170 = .ok (.return_, 1) := by decide +kernel
theorem dX11_request_0 : decode cX11_request 0 = .ok (.aload_n 0, 1) := by decide +kernel
theorem dX11_request_1 : decode cX11_request 1 = .ok (.iload_n 1, 1) := by decide +kernel
theorem dX11_request_2 : decode cX11_request 2 = .ok (.invokevirtual 74, 3) := by decide +kernel
theorem dX11_request_5 : decode cX11_request 5 = .ok (.ifCond .eq 11, 3) := by decide +kernel
theorem dX11_request_8 : decode cX11_request 8 = .ok (.aload_n 0, 1) := by decide +kernel
theorem dX11_request_9 : decode cX11_request 9 = .ok (.iload_n 3, 1) := by decide +kernel
theorem dX11_request_10 : decode cX11_request 10 = .ok (.invokevirtual 78, 3) := by decide +kernel
theorem dX11_request_13 : decode cX11_request 13 = .ok (.ifCond .ne 13, 3) := by decide +kernel
theorem dX11_request_16 : decode cX11_request 16 = .ok (.new 81, 3) := by decide +kernel
theorem dX11_request_19 : decode cX11_request 19 = .ok (.dup, 1) := by decide +kernel
theorem dX11_request_20 : decode cX11_request 20 = .ok (.ldc 83, 2) := by decide +kernel
theorem dX11_request_22 : decode cX11_request 22 = .ok (.invokespecial 85, 3) := by decide +kernel
theorem dX11_request_25 : decode cX11_request 25 = .ok (.athrow, 1) := by decide +kernel
theorem dX11_request_26 : decode cX11_request 26 = .ok (.iload_n 2, 1) := by decide +kernel
theorem dX11_request_27 : decode cX11_request 27 = .ok (.ifCond .eq 23, 3) := by decide +kernel
theorem dX11_request_30 : decode cX11_request 30 = .ok (.iload_n 2, 1) := by decide +kernel
theorem dX11_request_31 : decode cX11_request 31 = .ok (.iconst 1, 1) := by decide +kernel
theorem dX11_request_32 : decode cX11_request 32 = .ok (.if_icmp .eq 18, 3) := by decide +kernel
theorem dX11_request_35 : decode cX11_request 35 = .ok (.iload_n 2, 1) := by decide +kernel
theorem dX11_request_36 : decode cX11_request 36 = .ok (.iconst 2, 1) := by decide +kernel
theorem dX11_request_37 : decode cX11_request 37 = .ok (.if_icmp .eq 13, 3) := by decide +kernel
theorem dX11_request_40 : decode cX11_request 40 = .ok (.new 88, 3) := by decide +kernel
theorem dX11_request_43 : decode cX11_request 43 = .ok (.dup, 1) := by decide +kernel
theorem dX11_request_44 : decode cX11_request 44 = .ok (.ldc 90, 2) := by decide +kernel
theorem dX11_request_46 : decode cX11_request 46 = .ok (.invokespecial 92, 3) := by decide +kernel
theorem dX11_request_49 : decode cX11_request 49 = .ok (.athrow, 1) := by decide +kernel
theorem dX11_request_50 : decode cX11_request 50 = .ok (.aload_n 0, 1) := by decide +kernel
theorem dX11_request_51 : decode cX11_request 51 = .ok (.getfield 60, 3) := by decide +kernel
theorem dX11_request_54 : decode cX11_request 54 = .ok (.iload_n 1, 1) := by decide +kernel
theorem dX11_request_55 : decode cX11_request 55 = .ok (.aaload, 1) := by decide +kernel
theorem dX11_request_56 : decode cX11_request 56 = .ok (.astore 5, 2) := by decide +kernel
theorem dX11_request_58 : decode cX11_request 58 = .ok (.aload 5, 2) := by decide +kernel
theorem dX11_request_60 : decode cX11_request 60 = .ok (.getfield 93, 3) := by decide +kernel
theorem dX11_request_63 : decode cX11_request 63 = .ok (.iconst 1, 1) := by decide +kernel
theorem dX11_request_64 : decode cX11_request 64 = .ok (.if_icmp .ne 13, 3) := by decide +kernel
theorem dX11_request_67 : decode cX11_request 67 = .ok (.new 96, 3) := by decide +kernel
theorem dX11_request_70 : decode cX11_request 70 = .ok (.dup, 1) := by decide +kernel
theorem dX11_request_71 : decode cX11_request 71 = .ok (.ldc 98, 2) := by decide +kernel
theorem dX11_request_73 : decode cX11_request 73 = .ok (.invokespecial 100, 3) := by decide +kernel
theorem dX11_request_76 : decode cX11_request 76 = .ok (.athrow, 1) := by decide +kernel
theorem dX11_request_77 : decode cX11_request 77 = .ok (.aload_n 0, 1) := by decide +kernel
theorem dX11_request_78 : decode cX11_request 78 = .ok (.getfield 22, 3) := by decide +kernel
theorem dX11_request_81 : decode cX11_request 81 = .ok (.iload_n 1, 1) := by decide +kernel
theorem dX11_request_82 : decode cX11_request 82 = .ok (.aload 5, 2) := by decide +kernel
theorem dX11_request_84 : decode cX11_request 84 = .ok (.getfield 101, 3) := by decide +kernel
theorem dX11_request_87 : decode cX11_request 87 = .ok (.iconst 1, 1) := by decide +kernel
theorem dX11_request_88 : decode cX11_request 88 = .ok (.iadd, 1) := by decide +kernel
theorem dX11_request_89 : decode cX11_request 89 = .ok (.iload_n 2, 1) := by decide +kernel
theorem dX11_request_90 : decode cX11_request 90 = .ok (.iload_n 3, 1) := by decide +kernel
theorem dX11_request_91 : decode cX11_request 91 = .ok (.iload 4, 2) := by decide +kernel
theorem dX11_request_93 : decode cX11_request 93 = .ok (.invokevirtual 104, 3) := by decide +kernel
theorem dX11_request_96 : decode cX11_request 96 = .ok (.istore 6, 2) := by decide +kernel
theorem dX11_request_98 : decode cX11_request 98 = .ok (.iload 6, 2) := by decide +kernel
theorem dX11_request_100 : decode cX11_request 100 = .ok (.ifCond .ne 5, 3) := by decide +kernel
theorem dX11_request_103 : decode cX11_request 103 = .ok (.iconst (-1), 1) := by decide +kernel
theorem dX11_request_104 : decode cX11_request 104 = .ok (.ireturn, 1) := by decide +kernel
theorem dX11_request_105 : decode cX11_request 105 = .ok (.aload 5, 2) := by decide +kernel
theorem dX11_request_107 : decode cX11_request 107 = .ok (.iload 6, 2) := by decide +kernel
theorem dX11_request_109 : decode cX11_request 109 = .ok (.invokevirtual 108, 3) := by decide +kernel
theorem dX11_request_112 : decode cX11_request 112 = .ok (.aload_n 0, 1) := by decide +kernel
theorem dX11_request_113 : decode cX11_request 113 = .ok (.iload 6, 2) := by decide +kernel
theorem dX11_request_115 : decode cX11_request 115 = .ok (.invokevirtual 111, 3) := by decide +kernel
theorem dX11_request_118 : decode cX11_request 118 = .ok (.aload 5, 2) := by decide +kernel
theorem dX11_request_120 : decode cX11_request 120 = .ok (.getfield 101, 3) := by decide +kernel
theorem dX11_request_123 : decode cX11_request 123 = .ok (.ireturn, 1) := by decide +kernel
theorem dX11_again_0 : decode cX11_again 0 = .ok (.aload_n 0, 1) := by decide +kernel
theorem dX11_again_1 : decode cX11_again 1 = .ok (.iload_n 1, 1) := by decide +kernel
theorem dX11_again_2 : decode cX11_again 2 = .ok (.invokevirtual 74, 3) := by decide +kernel
theorem dX11_again_5 : decode cX11_again 5 = .ok (.ifCond .ne 13, 3) := by decide +kernel
theorem dX11_again_8 : decode cX11_again 8 = .ok (.new 81, 3) := by decide +kernel
theorem dX11_again_11 : decode cX11_again 11 = .ok (.dup, 1) := by decide +kernel
theorem dX11_again_12 : decode cX11_again 12 = .ok (.ldc 114, 2) := by decide +kernel
theorem dX11_again_14 : decode cX11_again 14 = .ok (.invokespecial 85, 3) := by decide +kernel
theorem dX11_again_17 : decode cX11_again 17 = .ok (.athrow, 1) := by decide +kernel
theorem dX11_again_18 : decode cX11_again 18 = .ok (.aload_n 0, 1) := by decide +kernel
theorem dX11_again_19 : decode cX11_again 19 = .ok (.getfield 60, 3) := by decide +kernel
theorem dX11_again_22 : decode cX11_again 22 = .ok (.iload_n 1, 1) := by decide +kernel
theorem dX11_again_23 : decode cX11_again 23 = .ok (.aaload, 1) := by decide +kernel
theorem dX11_again_24 : decode cX11_again 24 = .ok (.getfield 93, 3) := by decide +kernel
theorem dX11_again_27 : decode cX11_again 27 = .ok (.iconst 1, 1) := by decide +kernel
theorem dX11_again_28 : decode cX11_again 28 = .ok (.if_icmp .eq 13, 3) := by decide +kernel
theorem dX11_again_31 : decode cX11_again 31 = .ok (.new 96, 3) := by decide +kernel
theorem dX11_again_34 : decode cX11_again 34 = .ok (.dup, 1) := by decide +kernel
theorem dX11_again_35 : decode cX11_again 35 = .ok (.ldc 116, 2) := by decide +kernel
theorem dX11_again_37 : decode cX11_again 37 = .ok (.invokespecial 100, 3) := by decide +kernel
theorem dX11_again_40 : decode cX11_again 40 = .ok (.athrow, 1) := by decide +kernel
theorem dX11_again_41 : decode cX11_again 41 = .ok (.aload_n 0, 1) := by decide +kernel
theorem dX11_again_42 : decode cX11_again 42 = .ok (.aload_n 0, 1) := by decide +kernel
theorem dX11_again_43 : decode cX11_again 43 = .ok (.getfield 60, 3) := by decide +kernel
theorem dX11_again_46 : decode cX11_again 46 = .ok (.iload_n 1, 1) := by decide +kernel
theorem dX11_again_47 : decode cX11_again 47 = .ok (.aaload, 1) := by decide +kernel
theorem dX11_again_48 : decode cX11_again 48 = .ok (.getfield 118, 3) := by decide +kernel
theorem dX11_again_51 : decode cX11_again 51 = .ok (.invokevirtual 111, 3) := by decide +kernel
theorem dX11_again_54 : decode cX11_again 54 = .ok (.return_, 1) := by decide +kernel
theorem dX11_deliver_0 : decode cX11_deliver 0 = .ok (.aload_n 0, 1) := by decide +kernel
theorem dX11_deliver_1 : decode cX11_deliver 1 = .ok (.getfield 38, 3) := by decide +kernel
theorem dX11_deliver_4 : decode cX11_deliver 4 = .ok (.iload_n 1, 1) := by decide +kernel
theorem dX11_deliver_5 : decode cX11_deliver 5 = .ok (.invokevirtual 121, 3) := by decide +kernel
theorem dX11_deliver_8 : decode cX11_deliver 8 = .ok (.istore_n 2, 1) := by decide +kernel
theorem dX11_deliver_9 : decode cX11_deliver 9 = .ok (.iload_n 2, 1) := by decide +kernel
theorem dX11_deliver_10 : decode cX11_deliver 10 = .ok (.iconst (-1), 1) := by decide +kernel
theorem dX11_deliver_11 : decode cX11_deliver 11 = .ok (.if_icmp .ne 13, 3) := by decide +kernel
theorem dX11_deliver_14 : decode cX11_deliver 14 = .ok (.new 88, 3) := by decide +kernel
theorem dX11_deliver_17 : decode cX11_deliver 17 = .ok (.dup, 1) := by decide +kernel
theorem dX11_deliver_18 : decode cX11_deliver 18 = .ok (.ldc 125, 2) := by decide +kernel
theorem dX11_deliver_20 : decode cX11_deliver 20 = .ok (.invokespecial 92, 3) := by decide +kernel
theorem dX11_deliver_23 : decode cX11_deliver 23 = .ok (.athrow, 1) := by decide +kernel
theorem dX11_deliver_24 : decode cX11_deliver 24 = .ok (.aload_n 0, 1) := by decide +kernel
theorem dX11_deliver_25 : decode cX11_deliver 25 = .ok (.aload_n 0, 1) := by decide +kernel
theorem dX11_deliver_26 : decode cX11_deliver 26 = .ok (.getfield 38, 3) := by decide +kernel
theorem dX11_deliver_29 : decode cX11_deliver 29 = .ok (.iload_n 2, 1) := by decide +kernel
theorem dX11_deliver_30 : decode cX11_deliver 30 = .ok (.invokevirtual 127, 3) := by decide +kernel
theorem dX11_deliver_33 : decode cX11_deliver 33 = .ok (.invokevirtual 131, 3) := by decide +kernel
theorem dX11_deliver_36 : decode cX11_deliver 36 = .ok (.return_, 1) := by decide +kernel
theorem dX11_lose_0 : decode cX11_lose 0 = .ok (.aload_n 0, 1) := by decide +kernel
theorem dX11_lose_1 : decode cX11_lose 1 = .ok (.getfield 38, 3) := by decide +kernel
theorem dX11_lose_4 : decode cX11_lose 4 = .ok (.iload_n 1, 1) := by decide +kernel
theorem dX11_lose_5 : decode cX11_lose 5 = .ok (.invokevirtual 121, 3) := by decide +kernel
theorem dX11_lose_8 : decode cX11_lose 8 = .ok (.istore_n 2, 1) := by decide +kernel
theorem dX11_lose_9 : decode cX11_lose 9 = .ok (.iload_n 2, 1) := by decide +kernel
theorem dX11_lose_10 : decode cX11_lose 10 = .ok (.iconst (-1), 1) := by decide +kernel
theorem dX11_lose_11 : decode cX11_lose 11 = .ok (.if_icmp .ne 13, 3) := by decide +kernel
theorem dX11_lose_14 : decode cX11_lose 14 = .ok (.new 88, 3) := by decide +kernel
theorem dX11_lose_17 : decode cX11_lose 17 = .ok (.dup, 1) := by decide +kernel
theorem dX11_lose_18 : decode cX11_lose 18 = .ok (.ldc 125, 2) := by decide +kernel
theorem dX11_lose_20 : decode cX11_lose 20 = .ok (.invokespecial 92, 3) := by decide +kernel
theorem dX11_lose_23 : decode cX11_lose 23 = .ok (.athrow, 1) := by decide +kernel
theorem dX11_lose_24 : decode cX11_lose 24 = .ok (.aload_n 0, 1) := by decide +kernel
theorem dX11_lose_25 : decode cX11_lose 25 = .ok (.getfield 38, 3) := by decide +kernel
theorem dX11_lose_28 : decode cX11_lose 28 = .ok (.iload_n 2, 1) := by decide +kernel
theorem dX11_lose_29 : decode cX11_lose 29 = .ok (.invokevirtual 127, 3) := by decide +kernel
theorem dX11_lose_32 : decode cX11_lose 32 = .ok (.pop, 1) := by decide +kernel
theorem dX11_lose_33 : decode cX11_lose 33 = .ok (.aload_n 0, 1) := by decide +kernel
theorem dX11_lose_34 : decode cX11_lose 34 = .ok (.getfield 38, 3) := by decide +kernel
theorem dX11_lose_37 : decode cX11_lose 37 = .ok (.dup, 1) := by decide +kernel
theorem dX11_lose_38 : decode cX11_lose 38 = .ok (.getfield 135, 3) := by decide +kernel
theorem dX11_lose_41 : decode cX11_lose 41 = .ok (.iconst 1, 1) := by decide +kernel
theorem dX11_lose_42 : decode cX11_lose 42 = .ok (.iadd, 1) := by decide +kernel
theorem dX11_lose_43 : decode cX11_lose 43 = .ok (.putfield 135, 3) := by decide +kernel
theorem dX11_lose_46 : decode cX11_lose 46 = .ok (.return_, 1) := by decide +kernel
theorem dX11_flow_0 : decode cX11_flow 0 = .ok (.iload_n 1, 1) := by decide +kernel
theorem dX11_flow_1 : decode cX11_flow 1 = .ok (.ifCond .lt 9, 3) := by decide +kernel
theorem dX11_flow_4 : decode cX11_flow 4 = .ok (.iload_n 1, 1) := by decide +kernel
theorem dX11_flow_5 : decode cX11_flow 5 = .ok (.bipush 40, 2) := by decide +kernel
theorem dX11_flow_7 : decode cX11_flow 7 = .ok (.if_icmp .le 13, 3) := by decide +kernel
theorem dX11_flow_10 : decode cX11_flow 10 = .ok (.new 88, 3) := by decide +kernel
theorem dX11_flow_13 : decode cX11_flow 13 = .ok (.dup, 1) := by decide +kernel
theorem dX11_flow_14 : decode cX11_flow 14 = .ok (.ldc 138, 2) := by decide +kernel
theorem dX11_flow_16 : decode cX11_flow 16 = .ok (.invokespecial 92, 3) := by decide +kernel
theorem dX11_flow_19 : decode cX11_flow 19 = .ok (.athrow, 1) := by decide +kernel
theorem dX11_flow_20 : decode cX11_flow 20 = .ok (.iconst 0, 1) := by decide +kernel
theorem dX11_flow_21 : decode cX11_flow 21 = .ok (.istore_n 2, 1) := by decide +kernel
theorem dX11_flow_22 : decode cX11_flow 22 = .ok (.iload_n 2, 1) := by decide +kernel
theorem dX11_flow_23 : decode cX11_flow 23 = .ok (.iload_n 1, 1) := by decide +kernel
theorem dX11_flow_24 : decode cX11_flow 24 = .ok (.if_icmp .ge 31, 3) := by decide +kernel
theorem dX11_flow_27 : decode cX11_flow 27 = .ok (.aload_n 0, 1) := by decide +kernel
theorem dX11_flow_28 : decode cX11_flow 28 = .ok (.getfield 38, 3) := by decide +kernel
theorem dX11_flow_31 : decode cX11_flow 31 = .ok (.getfield 140, 3) := by decide +kernel
theorem dX11_flow_34 : decode cX11_flow 34 = .ok (.ifCond .le 21, 3) := by decide +kernel
theorem dX11_flow_37 : decode cX11_flow 37 = .ok (.aload_n 0, 1) := by decide +kernel
theorem dX11_flow_38 : decode cX11_flow 38 = .ok (.aload_n 0, 1) := by decide +kernel
theorem dX11_flow_39 : decode cX11_flow 39 = .ok (.getfield 38, 3) := by decide +kernel
theorem dX11_flow_42 : decode cX11_flow 42 = .ok (.iconst 0, 1) := by decide +kernel
theorem dX11_flow_43 : decode cX11_flow 43 = .ok (.invokevirtual 127, 3) := by decide +kernel
theorem dX11_flow_46 : decode cX11_flow 46 = .ok (.invokevirtual 131, 3) := by decide +kernel
theorem dX11_flow_49 : decode cX11_flow 49 = .ok (.iinc 2 1, 3) := by decide +kernel
theorem dX11_flow_52 : decode cX11_flow 52 = .ok (.goto (-30), 3) := by decide +kernel
theorem dX11_flow_55 : decode cX11_flow 55 = .ok (.iload_n 2, 1) := by decide +kernel
theorem dX11_flow_56 : decode cX11_flow 56 = .ok (.ireturn, 1) := by decide +kernel
theorem dX11_down_0 : decode cX11_down 0 = .ok (.aload_n 0, 1) := by decide +kernel
theorem dX11_down_1 : decode cX11_down 1 = .ok (.iload_n 1, 1) := by decide +kernel
theorem dX11_down_2 : decode cX11_down 2 = .ok (.invokevirtual 143, 3) := by decide +kernel
theorem dX11_down_5 : decode cX11_down 5 = .ok (.ifCond .ne 13, 3) := by decide +kernel
theorem dX11_down_8 : decode cX11_down 8 = .ok (.new 81, 3) := by decide +kernel
theorem dX11_down_11 : decode cX11_down 11 = .ok (.dup, 1) := by decide +kernel
theorem dX11_down_12 : decode cX11_down 12 = .ok (.ldc 146, 2) := by decide +kernel
theorem dX11_down_14 : decode cX11_down 14 = .ok (.invokespecial 85, 3) := by decide +kernel
theorem dX11_down_17 : decode cX11_down 17 = .ok (.athrow, 1) := by decide +kernel
theorem dX11_down_18 : decode cX11_down 18 = .ok (.aload_n 0, 1) := by decide +kernel
theorem dX11_down_19 : decode cX11_down 19 = .ok (.getfield 51, 3) := by decide +kernel
theorem dX11_down_22 : decode cX11_down 22 = .ok (.iload_n 1, 1) := by decide +kernel
theorem dX11_down_23 : decode cX11_down 23 = .ok (.aaload, 1) := by decide +kernel
theorem dX11_down_24 : decode cX11_down 24 = .ok (.getfield 148, 3) := by decide +kernel
theorem dX11_down_27 : decode cX11_down 27 = .ok (.ifCond .ne 16, 3) := by decide +kernel
theorem dX11_down_30 : decode cX11_down 30 = .ok (.aload_n 0, 1) := by decide +kernel
theorem dX11_down_31 : decode cX11_down 31 = .ok (.invokevirtual 151, 3) := by decide +kernel
theorem dX11_down_34 : decode cX11_down 34 = .ok (.aload_n 0, 1) := by decide +kernel
theorem dX11_down_35 : decode cX11_down 35 = .ok (.getfield 13, 3) := by decide +kernel
theorem dX11_down_38 : decode cX11_down 38 = .ok (.iconst 2, 1) := by decide +kernel
theorem dX11_down_39 : decode cX11_down 39 = .ok (.idiv, 1) := by decide +kernel
theorem dX11_down_40 : decode cX11_down 40 = .ok (.if_icmp .lt 13, 3) := by decide +kernel
theorem dX11_down_43 : decode cX11_down 43 = .ok (.new 96, 3) := by decide +kernel
theorem dX11_down_46 : decode cX11_down 46 = .ok (.dup, 1) := by decide +kernel
theorem dX11_down_47 : decode cX11_down 47 = .ok (.ldc 155, 2) := by decide +kernel
theorem dX11_down_49 : decode cX11_down 49 = .ok (.invokespecial 100, 3) := by decide +kernel
theorem dX11_down_52 : decode cX11_down 52 = .ok (.athrow, 1) := by decide +kernel
theorem dX11_down_53 : decode cX11_down 53 = .ok (.aload_n 0, 1) := by decide +kernel
theorem dX11_down_54 : decode cX11_down 54 = .ok (.getfield 51, 3) := by decide +kernel
theorem dX11_down_57 : decode cX11_down 57 = .ok (.iload_n 1, 1) := by decide +kernel
theorem dX11_down_58 : decode cX11_down 58 = .ok (.aaload, 1) := by decide +kernel
theorem dX11_down_59 : decode cX11_down 59 = .ok (.iconst 1, 1) := by decide +kernel
theorem dX11_down_60 : decode cX11_down 60 = .ok (.putfield 148, 3) := by decide +kernel
theorem dX11_down_63 : decode cX11_down 63 = .ok (.aload_n 0, 1) := by decide +kernel
theorem dX11_down_64 : decode cX11_down 64 = .ok (.getfield 51, 3) := by decide +kernel
theorem dX11_down_67 : decode cX11_down 67 = .ok (.iload_n 1, 1) := by decide +kernel
theorem dX11_down_68 : decode cX11_down 68 = .ok (.aaload, 1) := by decide +kernel
theorem dX11_down_69 : decode cX11_down 69 = .ok (.invokevirtual 157, 3) := by decide +kernel
theorem dX11_down_72 : decode cX11_down 72 = .ok (.return_, 1) := by decide +kernel
theorem dX11_up_0 : decode cX11_up 0 = .ok (.aload_n 0, 1) := by decide +kernel
theorem dX11_up_1 : decode cX11_up 1 = .ok (.iload_n 1, 1) := by decide +kernel
theorem dX11_up_2 : decode cX11_up 2 = .ok (.invokevirtual 143, 3) := by decide +kernel
theorem dX11_up_5 : decode cX11_up 5 = .ok (.ifCond .ne 13, 3) := by decide +kernel
theorem dX11_up_8 : decode cX11_up 8 = .ok (.new 81, 3) := by decide +kernel
theorem dX11_up_11 : decode cX11_up 11 = .ok (.dup, 1) := by decide +kernel
theorem dX11_up_12 : decode cX11_up 12 = .ok (.ldc 146, 2) := by decide +kernel
theorem dX11_up_14 : decode cX11_up 14 = .ok (.invokespecial 85, 3) := by decide +kernel
theorem dX11_up_17 : decode cX11_up 17 = .ok (.athrow, 1) := by decide +kernel
theorem dX11_up_18 : decode cX11_up 18 = .ok (.aload_n 0, 1) := by decide +kernel
theorem dX11_up_19 : decode cX11_up 19 = .ok (.getfield 51, 3) := by decide +kernel
theorem dX11_up_22 : decode cX11_up 22 = .ok (.iload_n 1, 1) := by decide +kernel
theorem dX11_up_23 : decode cX11_up 23 = .ok (.aaload, 1) := by decide +kernel
theorem dX11_up_24 : decode cX11_up 24 = .ok (.getfield 148, 3) := by decide +kernel
theorem dX11_up_27 : decode cX11_up 27 = .ok (.ifCond .ne 13, 3) := by decide +kernel
theorem dX11_up_30 : decode cX11_up 30 = .ok (.new 96, 3) := by decide +kernel
theorem dX11_up_33 : decode cX11_up 33 = .ok (.dup, 1) := by decide +kernel
theorem dX11_up_34 : decode cX11_up 34 = .ok (.ldc 160, 2) := by decide +kernel
theorem dX11_up_36 : decode cX11_up 36 = .ok (.invokespecial 100, 3) := by decide +kernel
theorem dX11_up_39 : decode cX11_up 39 = .ok (.athrow, 1) := by decide +kernel
theorem dX11_up_40 : decode cX11_up 40 = .ok (.aload_n 0, 1) := by decide +kernel
theorem dX11_up_41 : decode cX11_up 41 = .ok (.getfield 51, 3) := by decide +kernel
theorem dX11_up_44 : decode cX11_up 44 = .ok (.iload_n 1, 1) := by decide +kernel
theorem dX11_up_45 : decode cX11_up 45 = .ok (.aaload, 1) := by decide +kernel
theorem dX11_up_46 : decode cX11_up 46 = .ok (.iconst 0, 1) := by decide +kernel
theorem dX11_up_47 : decode cX11_up 47 = .ok (.putfield 148, 3) := by decide +kernel
theorem dX11_up_50 : decode cX11_up 50 = .ok (.return_, 1) := by decide +kernel
theorem dX11_suspect_0 : decode cX11_suspect 0 = .ok (.aload_n 0, 1) := by decide +kernel
theorem dX11_suspect_1 : decode cX11_suspect 1 = .ok (.iload_n 1, 1) := by decide +kernel
theorem dX11_suspect_2 : decode cX11_suspect 2 = .ok (.invokevirtual 143, 3) := by decide +kernel
theorem dX11_suspect_5 : decode cX11_suspect 5 = .ok (.ifCond .ne 13, 3) := by decide +kernel
theorem dX11_suspect_8 : decode cX11_suspect 8 = .ok (.new 81, 3) := by decide +kernel
theorem dX11_suspect_11 : decode cX11_suspect 11 = .ok (.dup, 1) := by decide +kernel
theorem dX11_suspect_12 : decode cX11_suspect 12 = .ok (.ldc 146, 2) := by decide +kernel
theorem dX11_suspect_14 : decode cX11_suspect 14 = .ok (.invokespecial 85, 3) := by decide +kernel
theorem dX11_suspect_17 : decode cX11_suspect 17 = .ok (.athrow, 1) := by decide +kernel
theorem dX11_suspect_18 : decode cX11_suspect 18 = .ok (.aload_n 0, 1) := by decide +kernel
theorem dX11_suspect_19 : decode cX11_suspect 19 = .ok (.getfield 51, 3) := by decide +kernel
theorem dX11_suspect_22 : decode cX11_suspect 22 = .ok (.iload_n 1, 1) := by decide +kernel
theorem dX11_suspect_23 : decode cX11_suspect 23 = .ok (.aaload, 1) := by decide +kernel
theorem dX11_suspect_24 : decode cX11_suspect 24 = .ok (.astore_n 2, 1) := by decide +kernel
theorem dX11_suspect_25 : decode cX11_suspect 25 = .ok (.aload_n 2, 1) := by decide +kernel
theorem dX11_suspect_26 : decode cX11_suspect 26 = .ok (.getfield 148, 3) := by decide +kernel
theorem dX11_suspect_29 : decode cX11_suspect 29 = .ok (.ifCond .eq 13, 3) := by decide +kernel
theorem dX11_suspect_32 : decode cX11_suspect 32 = .ok (.new 96, 3) := by decide +kernel
theorem dX11_suspect_35 : decode cX11_suspect 35 = .ok (.dup, 1) := by decide +kernel
theorem dX11_suspect_36 : decode cX11_suspect 36 = .ok (.ldc 162, 2) := by decide +kernel
theorem dX11_suspect_38 : decode cX11_suspect 38 = .ok (.invokespecial 100, 3) := by decide +kernel
theorem dX11_suspect_41 : decode cX11_suspect 41 = .ok (.athrow, 1) := by decide +kernel
theorem dX11_suspect_42 : decode cX11_suspect 42 = .ok (.aload_n 2, 1) := by decide +kernel
theorem dX11_suspect_43 : decode cX11_suspect 43 = .ok (.new 164, 3) := by decide +kernel
theorem dX11_suspect_46 : decode cX11_suspect 46 = .ok (.dup, 1) := by decide +kernel
theorem dX11_suspect_47 : decode cX11_suspect 47 = .ok (.aload_n 2, 1) := by decide +kernel
theorem dX11_suspect_48 : decode cX11_suspect 48 = .ok (.getfield 166, 3) := by decide +kernel
theorem dX11_suspect_51 : decode cX11_suspect 51 = .ok (.getfield 170, 3) := by decide +kernel
theorem dX11_suspect_54 : decode cX11_suspect 54 = .ok (.iconst 1, 1) := by decide +kernel
theorem dX11_suspect_55 : decode cX11_suspect 55 = .ok (.iadd, 1) := by decide +kernel
theorem dX11_suspect_56 : decode cX11_suspect 56 = .ok (.aload_n 2, 1) := by decide +kernel
theorem dX11_suspect_57 : decode cX11_suspect 57 = .ok (.getfield 166, 3) := by decide +kernel
theorem dX11_suspect_60 : decode cX11_suspect 60 = .ok (.getfield 173, 3) := by decide +kernel
theorem dX11_suspect_63 : decode cX11_suspect 63 = .ok (.invokespecial 174, 3) := by decide +kernel
theorem dX11_suspect_66 : decode cX11_suspect 66 = .ok (.invokevirtual 177, 3) := by decide +kernel
theorem dX11_suspect_69 : decode cX11_suspect 69 = .ok (.return_, 1) := by decide +kernel
theorem dX11_nudge_0 : decode cX11_nudge 0 = .ok (.aload_n 0, 1) := by decide +kernel
theorem dX11_nudge_1 : decode cX11_nudge 1 = .ok (.iload_n 1, 1) := by decide +kernel
theorem dX11_nudge_2 : decode cX11_nudge 2 = .ok (.invokevirtual 143, 3) := by decide +kernel
theorem dX11_nudge_5 : decode cX11_nudge 5 = .ok (.ifCond .ne 13, 3) := by decide +kernel
theorem dX11_nudge_8 : decode cX11_nudge 8 = .ok (.new 81, 3) := by decide +kernel
theorem dX11_nudge_11 : decode cX11_nudge 11 = .ok (.dup, 1) := by decide +kernel
theorem dX11_nudge_12 : decode cX11_nudge 12 = .ok (.ldc 146, 2) := by decide +kernel
theorem dX11_nudge_14 : decode cX11_nudge 14 = .ok (.invokespecial 85, 3) := by decide +kernel
theorem dX11_nudge_17 : decode cX11_nudge 17 = .ok (.athrow, 1) := by decide +kernel
theorem dX11_nudge_18 : decode cX11_nudge 18 = .ok (.aload_n 0, 1) := by decide +kernel
theorem dX11_nudge_19 : decode cX11_nudge 19 = .ok (.getfield 51, 3) := by decide +kernel
theorem dX11_nudge_22 : decode cX11_nudge 22 = .ok (.iload_n 1, 1) := by decide +kernel
theorem dX11_nudge_23 : decode cX11_nudge 23 = .ok (.aaload, 1) := by decide +kernel
theorem dX11_nudge_24 : decode cX11_nudge 24 = .ok (.getfield 148, 3) := by decide +kernel
theorem dX11_nudge_27 : decode cX11_nudge 27 = .ok (.ifCond .eq 13, 3) := by decide +kernel
theorem dX11_nudge_30 : decode cX11_nudge 30 = .ok (.new 96, 3) := by decide +kernel
theorem dX11_nudge_33 : decode cX11_nudge 33 = .ok (.dup, 1) := by decide +kernel
theorem dX11_nudge_34 : decode cX11_nudge 34 = .ok (.ldc 162, 2) := by decide +kernel
theorem dX11_nudge_36 : decode cX11_nudge 36 = .ok (.invokespecial 100, 3) := by decide +kernel
theorem dX11_nudge_39 : decode cX11_nudge 39 = .ok (.athrow, 1) := by decide +kernel
theorem dX11_nudge_40 : decode cX11_nudge 40 = .ok (.aload_n 0, 1) := by decide +kernel
theorem dX11_nudge_41 : decode cX11_nudge 41 = .ok (.getfield 38, 3) := by decide +kernel
theorem dX11_nudge_44 : decode cX11_nudge 44 = .ok (.getfield 181, 3) := by decide +kernel
theorem dX11_nudge_47 : decode cX11_nudge 47 = .ok (.istore_n 2, 1) := by decide +kernel
theorem dX11_nudge_48 : decode cX11_nudge 48 = .ok (.aload_n 0, 1) := by decide +kernel
theorem dX11_nudge_49 : decode cX11_nudge 49 = .ok (.getfield 51, 3) := by decide +kernel
theorem dX11_nudge_52 : decode cX11_nudge 52 = .ok (.iload_n 1, 1) := by decide +kernel
theorem dX11_nudge_53 : decode cX11_nudge 53 = .ok (.aaload, 1) := by decide +kernel
theorem dX11_nudge_54 : decode cX11_nudge 54 = .ok (.invokevirtual 184, 3) := by decide +kernel
theorem dX11_nudge_57 : decode cX11_nudge 57 = .ok (.aload_n 0, 1) := by decide +kernel
theorem dX11_nudge_58 : decode cX11_nudge 58 = .ok (.getfield 38, 3) := by decide +kernel
theorem dX11_nudge_61 : decode cX11_nudge 61 = .ok (.getfield 181, 3) := by decide +kernel
theorem dX11_nudge_64 : decode cX11_nudge 64 = .ok (.iload_n 2, 1) := by decide +kernel
theorem dX11_nudge_65 : decode cX11_nudge 65 = .ok (.isub, 1) := by decide +kernel
theorem dX11_nudge_66 : decode cX11_nudge 66 = .ok (.ireturn, 1) := by decide +kernel
theorem dX11_sync_0 : decode cX11_sync 0 = .ok (.aload_n 0, 1) := by decide +kernel
theorem dX11_sync_1 : decode cX11_sync 1 = .ok (.iload_n 1, 1) := by decide +kernel
theorem dX11_sync_2 : decode cX11_sync 2 = .ok (.invokevirtual 143, 3) := by decide +kernel
theorem dX11_sync_5 : decode cX11_sync 5 = .ok (.ifCond .ne 13, 3) := by decide +kernel
theorem dX11_sync_8 : decode cX11_sync 8 = .ok (.new 81, 3) := by decide +kernel
theorem dX11_sync_11 : decode cX11_sync 11 = .ok (.dup, 1) := by decide +kernel
theorem dX11_sync_12 : decode cX11_sync 12 = .ok (.ldc 146, 2) := by decide +kernel
theorem dX11_sync_14 : decode cX11_sync 14 = .ok (.invokespecial 85, 3) := by decide +kernel
theorem dX11_sync_17 : decode cX11_sync 17 = .ok (.athrow, 1) := by decide +kernel
theorem dX11_sync_18 : decode cX11_sync 18 = .ok (.aload_n 0, 1) := by decide +kernel
theorem dX11_sync_19 : decode cX11_sync 19 = .ok (.getfield 51, 3) := by decide +kernel
theorem dX11_sync_22 : decode cX11_sync 22 = .ok (.iload_n 1, 1) := by decide +kernel
theorem dX11_sync_23 : decode cX11_sync 23 = .ok (.aaload, 1) := by decide +kernel
theorem dX11_sync_24 : decode cX11_sync 24 = .ok (.astore_n 2, 1) := by decide +kernel
theorem dX11_sync_25 : decode cX11_sync 25 = .ok (.aload_n 2, 1) := by decide +kernel
theorem dX11_sync_26 : decode cX11_sync 26 = .ok (.getfield 148, 3) := by decide +kernel
theorem dX11_sync_29 : decode cX11_sync 29 = .ok (.ifCond .ne 17, 3) := by decide +kernel
theorem dX11_sync_32 : decode cX11_sync 32 = .ok (.aload_n 2, 1) := by decide +kernel
theorem dX11_sync_33 : decode cX11_sync 33 = .ok (.invokevirtual 187, 3) := by decide +kernel
theorem dX11_sync_36 : decode cX11_sync 36 = .ok (.ifCond .eq 10, 3) := by decide +kernel
theorem dX11_sync_39 : decode cX11_sync 39 = .ok (.aload_n 2, 1) := by decide +kernel
theorem dX11_sync_40 : decode cX11_sync 40 = .ok (.getfield 191, 3) := by decide +kernel
theorem dX11_sync_43 : decode cX11_sync 43 = .ok (.ifCond .eq 13, 3) := by decide +kernel
theorem dX11_sync_46 : decode cX11_sync 46 = .ok (.new 96, 3) := by decide +kernel
theorem dX11_sync_49 : decode cX11_sync 49 = .ok (.dup, 1) := by decide +kernel
theorem dX11_sync_50 : decode cX11_sync 50 = .ok (.ldc 194, 2) := by decide +kernel
theorem dX11_sync_52 : decode cX11_sync 52 = .ok (.invokespecial 100, 3) := by decide +kernel
theorem dX11_sync_55 : decode cX11_sync 55 = .ok (.athrow, 1) := by decide +kernel
theorem dX11_sync_56 : decode cX11_sync 56 = .ok (.aload_n 2, 1) := by decide +kernel
theorem dX11_sync_57 : decode cX11_sync 57 = .ok (.iconst 5, 1) := by decide +kernel
theorem dX11_sync_58 : decode cX11_sync 58 = .ok (.invokevirtual 196, 3) := by decide +kernel
theorem dX11_sync_61 : decode cX11_sync 61 = .ok (.return_, 1) := by decide +kernel
theorem dX11_fail_0 : decode cX11_fail 0 = .ok (.aload_n 0, 1) := by decide +kernel
theorem dX11_fail_1 : decode cX11_fail 1 = .ok (.getfield 67, 3) := by decide +kernel
theorem dX11_fail_4 : decode cX11_fail 4 = .ok (.istore_n 1, 1) := by decide +kernel
theorem dX11_fail_5 : decode cX11_fail 5 = .ok (.aload_n 0, 1) := by decide +kernel
theorem dX11_fail_6 : decode cX11_fail 6 = .ok (.iconst 0, 1) := by decide +kernel
theorem dX11_fail_7 : decode cX11_fail 7 = .ok (.putfield 67, 3) := by decide +kernel
theorem dX11_fail_10 : decode cX11_fail 10 = .ok (.iload_n 1, 1) := by decide +kernel
theorem dX11_fail_11 : decode cX11_fail 11 = .ok (.ireturn, 1) := by decide +kernel
theorem dX11_install_0 : decode cX11_install 0 = .ok (.aload_n 0, 1) := by decide +kernel
theorem dX11_install_1 : decode cX11_install 1 = .ok (.iconst 1, 1) := by decide +kernel
theorem dX11_install_2 : decode cX11_install 2 = .ok (.putfield 67, 3) := by decide +kernel
theorem dX11_install_5 : decode cX11_install 5 = .ok (.aload_n 0, 1) := by decide +kernel
theorem dX11_install_6 : decode cX11_install 6 = .ok (.dup, 1) := by decide +kernel
theorem dX11_install_7 : decode cX11_install 7 = .ok (.getfield 71, 3) := by decide +kernel
theorem dX11_install_10 : decode cX11_install 10 = .ok (.iconst 1, 1) := by decide +kernel
theorem dX11_install_11 : decode cX11_install 11 = .ok (.iadd, 1) := by decide +kernel
theorem dX11_install_12 : decode cX11_install 12 = .ok (.putfield 71, 3) := by decide +kernel
theorem dX11_install_15 : decode cX11_install 15 = .ok (.aload_n 0, 1) := by decide +kernel
theorem dX11_install_16 : decode cX11_install 16 = .ok (.iconst 0, 1) := by decide +kernel
theorem dX11_install_17 : decode cX11_install 17 = .ok (.putfield 199, 3) := by decide +kernel
theorem dX11_install_20 : decode cX11_install 20 = .ok (.aload_n 0, 1) := by decide +kernel
theorem dX11_install_21 : decode cX11_install 21 = .ok (.getfield 71, 3) := by decide +kernel
theorem dX11_install_24 : decode cX11_install 24 = .ok (.ireturn, 1) := by decide +kernel
theorem dX11_replica_0 : decode cX11_replica 0 = .ok (.aload_n 0, 1) := by decide +kernel
theorem dX11_replica_1 : decode cX11_replica 1 = .ok (.iload_n 1, 1) := by decide +kernel
theorem dX11_replica_2 : decode cX11_replica 2 = .ok (.invokevirtual 143, 3) := by decide +kernel
theorem dX11_replica_5 : decode cX11_replica 5 = .ok (.ifCond .ne 5, 3) := by decide +kernel
theorem dX11_replica_8 : decode cX11_replica 8 = .ok (.iconst (-1), 1) := by decide +kernel
theorem dX11_replica_9 : decode cX11_replica 9 = .ok (.ireturn, 1) := by decide +kernel
theorem dX11_replica_10 : decode cX11_replica 10 = .ok (.aload_n 0, 1) := by decide +kernel
theorem dX11_replica_11 : decode cX11_replica 11 = .ok (.getfield 51, 3) := by decide +kernel
theorem dX11_replica_14 : decode cX11_replica 14 = .ok (.iload_n 1, 1) := by decide +kernel
theorem dX11_replica_15 : decode cX11_replica 15 = .ok (.aaload, 1) := by decide +kernel
theorem dX11_replica_16 : decode cX11_replica 16 = .ok (.astore_n 3, 1) := by decide +kernel
theorem dX11_replica_17 : decode cX11_replica 17 = .ok (.iload_n 2, 1) := by decide +kernel
theorem dX11_replica_18 : decode cX11_replica 18 = .ok (.tableswitch 139 0 10 #[58, 71, 76, 84, 92, 97, 105, 110, 118, 126, 134], 58) := by decide +kernel
theorem dX11_replica_76 : decode cX11_replica 76 = .ok (.aload_n 3, 1) := by decide +kernel
theorem dX11_replica_77 : decode cX11_replica 77 = .ok (.getfield 148, 3) := by decide +kernel
theorem dX11_replica_80 : decode cX11_replica 80 = .ok (.ifCond .eq 7, 3) := by decide +kernel
theorem dX11_replica_83 : decode cX11_replica 83 = .ok (.iconst 1, 1) := by decide +kernel
theorem dX11_replica_84 : decode cX11_replica 84 = .ok (.goto 4, 3) := by decide +kernel
theorem dX11_replica_87 : decode cX11_replica 87 = .ok (.iconst 0, 1) := by decide +kernel
theorem dX11_replica_88 : decode cX11_replica 88 = .ok (.ireturn, 1) := by decide +kernel
theorem dX11_replica_89 : decode cX11_replica 89 = .ok (.aload_n 3, 1) := by decide +kernel
theorem dX11_replica_90 : decode cX11_replica 90 = .ok (.getfield 191, 3) := by decide +kernel
theorem dX11_replica_93 : decode cX11_replica 93 = .ok (.ireturn, 1) := by decide +kernel
theorem dX11_replica_94 : decode cX11_replica 94 = .ok (.aload_n 3, 1) := by decide +kernel
theorem dX11_replica_95 : decode cX11_replica 95 = .ok (.getfield 166, 3) := by decide +kernel
theorem dX11_replica_98 : decode cX11_replica 98 = .ok (.getfield 170, 3) := by decide +kernel
theorem dX11_replica_101 : decode cX11_replica 101 = .ok (.ireturn, 1) := by decide +kernel
theorem dX11_replica_102 : decode cX11_replica 102 = .ok (.aload_n 3, 1) := by decide +kernel
theorem dX11_replica_103 : decode cX11_replica 103 = .ok (.getfield 166, 3) := by decide +kernel
theorem dX11_replica_106 : decode cX11_replica 106 = .ok (.getfield 173, 3) := by decide +kernel
theorem dX11_replica_109 : decode cX11_replica 109 = .ok (.ireturn, 1) := by decide +kernel
theorem dX11_replica_110 : decode cX11_replica 110 = .ok (.aload_n 3, 1) := by decide +kernel
theorem dX11_replica_111 : decode cX11_replica 111 = .ok (.getfield 202, 3) := by decide +kernel
theorem dX11_replica_114 : decode cX11_replica 114 = .ok (.ireturn, 1) := by decide +kernel
theorem dX11_replica_115 : decode cX11_replica 115 = .ok (.aload_n 3, 1) := by decide +kernel
theorem dX11_replica_116 : decode cX11_replica 116 = .ok (.getfield 205, 3) := by decide +kernel
theorem dX11_replica_119 : decode cX11_replica 119 = .ok (.getfield 209, 3) := by decide +kernel
theorem dX11_replica_122 : decode cX11_replica 122 = .ok (.ireturn, 1) := by decide +kernel
theorem dX11_replica_123 : decode cX11_replica 123 = .ok (.aload_n 3, 1) := by decide +kernel
theorem dX11_replica_124 : decode cX11_replica 124 = .ok (.getfield 214, 3) := by decide +kernel
theorem dX11_replica_127 : decode cX11_replica 127 = .ok (.ireturn, 1) := by decide +kernel
theorem dX11_replica_128 : decode cX11_replica 128 = .ok (.aload_n 3, 1) := by decide +kernel
theorem dX11_replica_129 : decode cX11_replica 129 = .ok (.getfield 217, 3) := by decide +kernel
theorem dX11_replica_132 : decode cX11_replica 132 = .ok (.getfield 221, 3) := by decide +kernel
theorem dX11_replica_135 : decode cX11_replica 135 = .ok (.ireturn, 1) := by decide +kernel
theorem dX11_replica_136 : decode cX11_replica 136 = .ok (.aload_n 3, 1) := by decide +kernel
theorem dX11_replica_137 : decode cX11_replica 137 = .ok (.getfield 224, 3) := by decide +kernel
theorem dX11_replica_140 : decode cX11_replica 140 = .ok (.getfield 170, 3) := by decide +kernel
theorem dX11_replica_143 : decode cX11_replica 143 = .ok (.ireturn, 1) := by decide +kernel
theorem dX11_replica_144 : decode cX11_replica 144 = .ok (.aload_n 3, 1) := by decide +kernel
theorem dX11_replica_145 : decode cX11_replica 145 = .ok (.getfield 224, 3) := by decide +kernel
theorem dX11_replica_148 : decode cX11_replica 148 = .ok (.getfield 173, 3) := by decide +kernel
theorem dX11_replica_151 : decode cX11_replica 151 = .ok (.ireturn, 1) := by decide +kernel
theorem dX11_replica_152 : decode cX11_replica 152 = .ok (.aload_n 3, 1) := by decide +kernel
theorem dX11_replica_153 : decode cX11_replica 153 = .ok (.getfield 227, 3) := by decide +kernel
theorem dX11_replica_156 : decode cX11_replica 156 = .ok (.ireturn, 1) := by decide +kernel
theorem dX11_replica_157 : decode cX11_replica 157 = .ok (.iconst (-1), 1) := by decide +kernel
theorem dX11_replica_158 : decode cX11_replica 158 = .ok (.ireturn, 1) := by decide +kernel
theorem dX11_entry_0 : decode cX11_entry 0 = .ok (.aload_n 0, 1) := by decide +kernel
theorem dX11_entry_1 : decode cX11_entry 1 = .ok (.iload_n 1, 1) := by decide +kernel
theorem dX11_entry_2 : decode cX11_entry 2 = .ok (.invokevirtual 143, 3) := by decide +kernel
theorem dX11_entry_5 : decode cX11_entry 5 = .ok (.ifCond .eq 23, 3) := by decide +kernel
theorem dX11_entry_8 : decode cX11_entry 8 = .ok (.aload_n 0, 1) := by decide +kernel
theorem dX11_entry_9 : decode cX11_entry 9 = .ok (.getfield 51, 3) := by decide +kernel
theorem dX11_entry_12 : decode cX11_entry 12 = .ok (.iload_n 1, 1) := by decide +kernel
theorem dX11_entry_13 : decode cX11_entry 13 = .ok (.aaload, 1) := by decide +kernel
theorem dX11_entry_14 : decode cX11_entry 14 = .ok (.getfield 205, 3) := by decide +kernel
theorem dX11_entry_17 : decode cX11_entry 17 = .ok (.iload_n 2, 1) := by decide +kernel
theorem dX11_entry_18 : decode cX11_entry 18 = .ok (.invokevirtual 230, 3) := by decide +kernel
theorem dX11_entry_21 : decode cX11_entry 21 = .ok (.ifCond .eq 7, 3) := by decide +kernel
theorem dX11_entry_24 : decode cX11_entry 24 = .ok (.iconst 1, 1) := by decide +kernel
theorem dX11_entry_25 : decode cX11_entry 25 = .ok (.goto 4, 3) := by decide +kernel
theorem dX11_entry_28 : decode cX11_entry 28 = .ok (.iconst 0, 1) := by decide +kernel
theorem dX11_entry_29 : decode cX11_entry 29 = .ok (.istore 4, 2) := by decide +kernel
theorem dX11_entry_31 : decode cX11_entry 31 = .ok (.iload 4, 2) := by decide +kernel
theorem dX11_entry_33 : decode cX11_entry 33 = .ok (.ifCond .eq 19, 3) := by decide +kernel
theorem dX11_entry_36 : decode cX11_entry 36 = .ok (.aload_n 0, 1) := by decide +kernel
theorem dX11_entry_37 : decode cX11_entry 37 = .ok (.getfield 51, 3) := by decide +kernel
theorem dX11_entry_40 : decode cX11_entry 40 = .ok (.iload_n 1, 1) := by decide +kernel
theorem dX11_entry_41 : decode cX11_entry 41 = .ok (.aaload, 1) := by decide +kernel
theorem dX11_entry_42 : decode cX11_entry 42 = .ok (.getfield 205, 3) := by decide +kernel
theorem dX11_entry_45 : decode cX11_entry 45 = .ok (.iload_n 2, 1) := by decide +kernel
theorem dX11_entry_46 : decode cX11_entry 46 = .ok (.invokevirtual 233, 3) := by decide +kernel
theorem dX11_entry_49 : decode cX11_entry 49 = .ok (.goto 4, 3) := by decide +kernel
theorem dX11_entry_52 : decode cX11_entry 52 = .ok (.iconst 0, 1) := by decide +kernel
theorem dX11_entry_53 : decode cX11_entry 53 = .ok (.istore 5, 2) := by decide +kernel
theorem dX11_entry_55 : decode cX11_entry 55 = .ok (.iload_n 3, 1) := by decide +kernel
theorem dX11_entry_56 : decode cX11_entry 56 = .ok (.ifCond .ne 19, 3) := by decide +kernel
theorem dX11_entry_59 : decode cX11_entry 59 = .ok (.iload 4, 2) := by decide +kernel
theorem dX11_entry_61 : decode cX11_entry 61 = .ok (.ifCond .eq 14, 3) := by decide +kernel
theorem dX11_entry_64 : decode cX11_entry 64 = .ok (.iload 5, 2) := by decide +kernel
theorem dX11_entry_66 : decode cX11_entry 66 = .ok (.ifCond .ne 7, 3) := by decide +kernel
theorem dX11_entry_69 : decode cX11_entry 69 = .ok (.iconst 0, 1) := by decide +kernel
theorem dX11_entry_70 : decode cX11_entry 70 = .ok (.goto 4, 3) := by decide +kernel
theorem dX11_entry_73 : decode cX11_entry 73 = .ok (.iconst 1, 1) := by decide +kernel
theorem dX11_entry_74 : decode cX11_entry 74 = .ok (.ireturn, 1) := by decide +kernel
theorem dX11_entry_75 : decode cX11_entry 75 = .ok (.iload_n 3, 1) := by decide +kernel
theorem dX11_entry_76 : decode cX11_entry 76 = .ok (.iconst 5, 1) := by decide +kernel
theorem dX11_entry_77 : decode cX11_entry 77 = .ok (.if_icmp .ne 23, 3) := by decide +kernel
theorem dX11_entry_80 : decode cX11_entry 80 = .ok (.iload 5, 2) := by decide +kernel
theorem dX11_entry_82 : decode cX11_entry 82 = .ok (.ifCond .ne 7, 3) := by decide +kernel
theorem dX11_entry_85 : decode cX11_entry 85 = .ok (.iconst 0, 1) := by decide +kernel
theorem dX11_entry_86 : decode cX11_entry 86 = .ok (.goto 13, 3) := by decide +kernel
theorem dX11_entry_89 : decode cX11_entry 89 = .ok (.aload_n 0, 1) := by decide +kernel
theorem dX11_entry_90 : decode cX11_entry 90 = .ok (.getfield 22, 3) := by decide +kernel
theorem dX11_entry_93 : decode cX11_entry 93 = .ok (.getfield 236, 3) := by decide +kernel
theorem dX11_entry_96 : decode cX11_entry 96 = .ok (.iload 5, 2) := by decide +kernel
theorem dX11_entry_98 : decode cX11_entry 98 = .ok (.iaload, 1) := by decide +kernel
theorem dX11_entry_99 : decode cX11_entry 99 = .ok (.ireturn, 1) := by decide +kernel
theorem dX11_entry_100 : decode cX11_entry 100 = .ok (.iload 5, 2) := by decide +kernel
theorem dX11_entry_102 : decode cX11_entry 102 = .ok (.ifCond .ne 5, 3) := by decide +kernel
theorem dX11_entry_105 : decode cX11_entry 105 = .ok (.iconst (-1), 1) := by decide +kernel
theorem dX11_entry_106 : decode cX11_entry 106 = .ok (.ireturn, 1) := by decide +kernel
theorem dX11_entry_107 : decode cX11_entry 107 = .ok (.iload_n 3, 1) := by decide +kernel
theorem dX11_entry_108 : decode cX11_entry 108 = .ok (.tableswitch 76 1 4 #[32, 43, 54, 65], 32) := by decide +kernel
theorem dX11_entry_140 : decode cX11_entry 140 = .ok (.aload_n 0, 1) := by decide +kernel
theorem dX11_entry_141 : decode cX11_entry 141 = .ok (.getfield 22, 3) := by decide +kernel
theorem dX11_entry_144 : decode cX11_entry 144 = .ok (.getfield 240, 3) := by decide +kernel
theorem dX11_entry_147 : decode cX11_entry 147 = .ok (.iload 5, 2) := by decide +kernel
theorem dX11_entry_149 : decode cX11_entry 149 = .ok (.iaload, 1) := by decide +kernel
theorem dX11_entry_150 : decode cX11_entry 150 = .ok (.ireturn, 1) := by decide +kernel
theorem dX11_entry_151 : decode cX11_entry 151 = .ok (.aload_n 0, 1) := by decide +kernel
theorem dX11_entry_152 : decode cX11_entry 152 = .ok (.getfield 22, 3) := by decide +kernel
theorem dX11_entry_155 : decode cX11_entry 155 = .ok (.getfield 243, 3) := by decide +kernel
theorem dX11_entry_158 : decode cX11_entry 158 = .ok (.iload 5, 2) := by decide +kernel
theorem dX11_entry_160 : decode cX11_entry 160 = .ok (.iaload, 1) := by decide +kernel
theorem dX11_entry_161 : decode cX11_entry 161 = .ok (.ireturn, 1) := by decide +kernel
theorem dX11_entry_162 : decode cX11_entry 162 = .ok (.aload_n 0, 1) := by decide +kernel
theorem dX11_entry_163 : decode cX11_entry 163 = .ok (.getfield 22, 3) := by decide +kernel
theorem dX11_entry_166 : decode cX11_entry 166 = .ok (.getfield 246, 3) := by decide +kernel
theorem dX11_entry_169 : decode cX11_entry 169 = .ok (.iload 5, 2) := by decide +kernel
theorem dX11_entry_171 : decode cX11_entry 171 = .ok (.iaload, 1) := by decide +kernel
theorem dX11_entry_172 : decode cX11_entry 172 = .ok (.ireturn, 1) := by decide +kernel
theorem dX11_entry_173 : decode cX11_entry 173 = .ok (.aload_n 0, 1) := by decide +kernel
theorem dX11_entry_174 : decode cX11_entry 174 = .ok (.getfield 22, 3) := by decide +kernel
theorem dX11_entry_177 : decode cX11_entry 177 = .ok (.getfield 249, 3) := by decide +kernel
theorem dX11_entry_180 : decode cX11_entry 180 = .ok (.iload 5, 2) := by decide +kernel
theorem dX11_entry_182 : decode cX11_entry 182 = .ok (.iaload, 1) := by decide +kernel
theorem dX11_entry_183 : decode cX11_entry 183 = .ok (.ireturn, 1) := by decide +kernel
theorem dX11_entry_184 : decode cX11_entry 184 = .ok (.iconst (-1), 1) := by decide +kernel
theorem dX11_entry_185 : decode cX11_entry 185 = .ok (.ireturn, 1) := by decide +kernel
theorem dX11_word_0 : decode cX11_word 0 = .ok (.aload_n 0, 1) := by decide +kernel
theorem dX11_word_1 : decode cX11_word 1 = .ok (.iload_n 1, 1) := by decide +kernel
theorem dX11_word_2 : decode cX11_word 2 = .ok (.invokevirtual 143, 3) := by decide +kernel
theorem dX11_word_5 : decode cX11_word 5 = .ok (.ifCond .eq 11, 3) := by decide +kernel
theorem dX11_word_8 : decode cX11_word 8 = .ok (.aload_n 0, 1) := by decide +kernel
theorem dX11_word_9 : decode cX11_word 9 = .ok (.iload_n 2, 1) := by decide +kernel
theorem dX11_word_10 : decode cX11_word 10 = .ok (.invokevirtual 78, 3) := by decide +kernel
theorem dX11_word_13 : decode cX11_word 13 = .ok (.ifCond .ne 5, 3) := by decide +kernel
theorem dX11_word_16 : decode cX11_word 16 = .ok (.iconst 0, 1) := by decide +kernel
theorem dX11_word_17 : decode cX11_word 17 = .ok (.ireturn, 1) := by decide +kernel
theorem dX11_word_18 : decode cX11_word 18 = .ok (.aload_n 0, 1) := by decide +kernel
theorem dX11_word_19 : decode cX11_word 19 = .ok (.getfield 31, 3) := by decide +kernel
theorem dX11_word_22 : decode cX11_word 22 = .ok (.aload_n 0, 1) := by decide +kernel
theorem dX11_word_23 : decode cX11_word 23 = .ok (.getfield 51, 3) := by decide +kernel
theorem dX11_word_26 : decode cX11_word 26 = .ok (.iload_n 1, 1) := by decide +kernel
theorem dX11_word_27 : decode cX11_word 27 = .ok (.aaload, 1) := by decide +kernel
theorem dX11_word_28 : decode cX11_word 28 = .ok (.getfield 205, 3) := by decide +kernel
theorem dX11_word_31 : decode cX11_word 31 = .ok (.aload_n 0, 1) := by decide +kernel
theorem dX11_word_32 : decode cX11_word 32 = .ok (.getfield 51, 3) := by decide +kernel
theorem dX11_word_35 : decode cX11_word 35 = .ok (.iload_n 1, 1) := by decide +kernel
theorem dX11_word_36 : decode cX11_word 36 = .ok (.aaload, 1) := by decide +kernel
theorem dX11_word_37 : decode cX11_word 37 = .ok (.invokevirtual 252, 3) := by decide +kernel
theorem dX11_word_40 : decode cX11_word 40 = .ok (.invokevirtual 255, 3) := by decide +kernel
theorem dX11_word_43 : decode cX11_word 43 = .ok (.aload_n 0, 1) := by decide +kernel
theorem dX11_word_44 : decode cX11_word 44 = .ok (.getfield 31, 3) := by decide +kernel
theorem dX11_word_47 : decode cX11_word 47 = .ok (.getfield 259, 3) := by decide +kernel
theorem dX11_word_50 : decode cX11_word 50 = .ok (.iload_n 2, 1) := by decide +kernel
theorem dX11_word_51 : decode cX11_word 51 = .ok (.iaload, 1) := by decide +kernel
theorem dX11_word_52 : decode cX11_word 52 = .ok (.ireturn, 1) := by decide +kernel
theorem dX11_client_0 : decode cX11_client 0 = .ok (.aload_n 0, 1) := by decide +kernel
theorem dX11_client_1 : decode cX11_client 1 = .ok (.iload_n 1, 1) := by decide +kernel
theorem dX11_client_2 : decode cX11_client 2 = .ok (.invokevirtual 74, 3) := by decide +kernel
theorem dX11_client_5 : decode cX11_client 5 = .ok (.ifCond .ne 5, 3) := by decide +kernel
theorem dX11_client_8 : decode cX11_client 8 = .ok (.iconst (-1), 1) := by decide +kernel
theorem dX11_client_9 : decode cX11_client 9 = .ok (.ireturn, 1) := by decide +kernel
theorem dX11_client_10 : decode cX11_client 10 = .ok (.aload_n 0, 1) := by decide +kernel
theorem dX11_client_11 : decode cX11_client 11 = .ok (.getfield 60, 3) := by decide +kernel
theorem dX11_client_14 : decode cX11_client 14 = .ok (.iload_n 1, 1) := by decide +kernel
theorem dX11_client_15 : decode cX11_client 15 = .ok (.aaload, 1) := by decide +kernel
theorem dX11_client_16 : decode cX11_client 16 = .ok (.astore_n 3, 1) := by decide +kernel
theorem dX11_client_17 : decode cX11_client 17 = .ok (.iload_n 2, 1) := by decide +kernel
theorem dX11_client_18 : decode cX11_client 18 = .ok (.ifCond .ne 8, 3) := by decide +kernel
theorem dX11_client_21 : decode cX11_client 21 = .ok (.aload_n 3, 1) := by decide +kernel
theorem dX11_client_22 : decode cX11_client 22 = .ok (.getfield 101, 3) := by decide +kernel
theorem dX11_client_25 : decode cX11_client 25 = .ok (.ireturn, 1) := by decide +kernel
theorem dX11_client_26 : decode cX11_client 26 = .ok (.iload_n 2, 1) := by decide +kernel
theorem dX11_client_27 : decode cX11_client 27 = .ok (.iconst 1, 1) := by decide +kernel
theorem dX11_client_28 : decode cX11_client 28 = .ok (.if_icmp .ne 8, 3) := by decide +kernel
theorem dX11_client_31 : decode cX11_client 31 = .ok (.aload_n 3, 1) := by decide +kernel
theorem dX11_client_32 : decode cX11_client 32 = .ok (.getfield 93, 3) := by decide +kernel
theorem dX11_client_35 : decode cX11_client 35 = .ok (.ireturn, 1) := by decide +kernel
theorem dX11_client_36 : decode cX11_client 36 = .ok (.aload_n 3, 1) := by decide +kernel
theorem dX11_client_37 : decode cX11_client 37 = .ok (.getfield 93, 3) := by decide +kernel
theorem dX11_client_40 : decode cX11_client 40 = .ok (.iconst 2, 1) := by decide +kernel
theorem dX11_client_41 : decode cX11_client 41 = .ok (.if_icmp .eq 5, 3) := by decide +kernel
theorem dX11_client_44 : decode cX11_client 44 = .ok (.iconst (-1), 1) := by decide +kernel
theorem dX11_client_45 : decode cX11_client 45 = .ok (.ireturn, 1) := by decide +kernel
theorem dX11_client_46 : decode cX11_client 46 = .ok (.iload_n 2, 1) := by decide +kernel
theorem dX11_client_47 : decode cX11_client 47 = .ok (.tableswitch 46 2 4 #[25, 30, 38], 25) := by decide +kernel
theorem dX11_client_72 : decode cX11_client 72 = .ok (.aload_n 3, 1) := by decide +kernel
theorem dX11_client_73 : decode cX11_client 73 = .ok (.getfield 261, 3) := by decide +kernel
theorem dX11_client_76 : decode cX11_client 76 = .ok (.ireturn, 1) := by decide +kernel
theorem dX11_client_77 : decode cX11_client 77 = .ok (.aload_n 3, 1) := by decide +kernel
theorem dX11_client_78 : decode cX11_client 78 = .ok (.getfield 264, 3) := by decide +kernel
theorem dX11_client_81 : decode cX11_client 81 = .ok (.getfield 170, 3) := by decide +kernel
theorem dX11_client_84 : decode cX11_client 84 = .ok (.ireturn, 1) := by decide +kernel
theorem dX11_client_85 : decode cX11_client 85 = .ok (.aload_n 3, 1) := by decide +kernel
theorem dX11_client_86 : decode cX11_client 86 = .ok (.getfield 264, 3) := by decide +kernel
theorem dX11_client_89 : decode cX11_client 89 = .ok (.getfield 173, 3) := by decide +kernel
theorem dX11_client_92 : decode cX11_client 92 = .ok (.ireturn, 1) := by decide +kernel
theorem dX11_client_93 : decode cX11_client 93 = .ok (.iconst (-1), 1) := by decide +kernel
theorem dX11_client_94 : decode cX11_client 94 = .ok (.ireturn, 1) := by decide +kernel
theorem dX11_answer_0 : decode cX11_answer 0 = .ok (.aload_n 0, 1) := by decide +kernel
theorem dX11_answer_1 : decode cX11_answer 1 = .ok (.iload_n 1, 1) := by decide +kernel
theorem dX11_answer_2 : decode cX11_answer 2 = .ok (.invokevirtual 74, 3) := by decide +kernel
theorem dX11_answer_5 : decode cX11_answer 5 = .ok (.ifCond .eq 15, 3) := by decide +kernel
theorem dX11_answer_8 : decode cX11_answer 8 = .ok (.aload_n 0, 1) := by decide +kernel
theorem dX11_answer_9 : decode cX11_answer 9 = .ok (.getfield 60, 3) := by decide +kernel
theorem dX11_answer_12 : decode cX11_answer 12 = .ok (.iload_n 1, 1) := by decide +kernel
theorem dX11_answer_13 : decode cX11_answer 13 = .ok (.aaload, 1) := by decide +kernel
theorem dX11_answer_14 : decode cX11_answer 14 = .ok (.getfield 267, 3) := by decide +kernel
theorem dX11_answer_17 : decode cX11_answer 17 = .ok (.goto 4, 3) := by decide +kernel
theorem dX11_answer_20 : decode cX11_answer 20 = .ok (.iconst 0, 1) := by decide +kernel
theorem dX11_answer_21 : decode cX11_answer 21 = .ok (.ireturn, 1) := by decide +kernel
theorem dX11_about_0 : decode cX11_about 0 = .ok (.iload_n 1, 1) := by decide +kernel
theorem dX11_about_1 : decode cX11_about 1 = .ok (.tableswitch 98 0 6 #[43, 51, 59, 67, 80, 85, 90], 43) := by decide +kernel
theorem dX11_about_44 : decode cX11_about 44 = .ok (.aload_n 0, 1) := by decide +kernel
theorem dX11_about_45 : decode cX11_about 45 = .ok (.getfield 38, 3) := by decide +kernel
theorem dX11_about_48 : decode cX11_about 48 = .ok (.getfield 140, 3) := by decide +kernel
theorem dX11_about_51 : decode cX11_about 51 = .ok (.ireturn, 1) := by decide +kernel
theorem dX11_about_52 : decode cX11_about 52 = .ok (.aload_n 0, 1) := by decide +kernel
theorem dX11_about_53 : decode cX11_about 53 = .ok (.getfield 38, 3) := by decide +kernel
theorem dX11_about_56 : decode cX11_about 56 = .ok (.getfield 181, 3) := by decide +kernel
theorem dX11_about_59 : decode cX11_about 59 = .ok (.ireturn, 1) := by decide +kernel
theorem dX11_about_60 : decode cX11_about 60 = .ok (.aload_n 0, 1) := by decide +kernel
theorem dX11_about_61 : decode cX11_about 61 = .ok (.getfield 38, 3) := by decide +kernel
theorem dX11_about_64 : decode cX11_about 64 = .ok (.getfield 135, 3) := by decide +kernel
theorem dX11_about_67 : decode cX11_about 67 = .ok (.ireturn, 1) := by decide +kernel
theorem dX11_about_68 : decode cX11_about 68 = .ok (.aload_n 0, 1) := by decide +kernel
theorem dX11_about_69 : decode cX11_about 69 = .ok (.getfield 67, 3) := by decide +kernel
theorem dX11_about_72 : decode cX11_about 72 = .ok (.ifCond .eq 7, 3) := by decide +kernel
theorem dX11_about_75 : decode cX11_about 75 = .ok (.iconst 1, 1) := by decide +kernel
theorem dX11_about_76 : decode cX11_about 76 = .ok (.goto 4, 3) := by decide +kernel
theorem dX11_about_79 : decode cX11_about 79 = .ok (.iconst 0, 1) := by decide +kernel
theorem dX11_about_80 : decode cX11_about 80 = .ok (.ireturn, 1) := by decide +kernel
theorem dX11_about_81 : decode cX11_about 81 = .ok (.aload_n 0, 1) := by decide +kernel
theorem dX11_about_82 : decode cX11_about 82 = .ok (.getfield 71, 3) := by decide +kernel
theorem dX11_about_85 : decode cX11_about 85 = .ok (.ireturn, 1) := by decide +kernel
theorem dX11_about_86 : decode cX11_about 86 = .ok (.aload_n 0, 1) := by decide +kernel
theorem dX11_about_87 : decode cX11_about 87 = .ok (.getfield 199, 3) := by decide +kernel
theorem dX11_about_90 : decode cX11_about 90 = .ok (.ireturn, 1) := by decide +kernel
theorem dX11_about_91 : decode cX11_about 91 = .ok (.aload_n 0, 1) := by decide +kernel
theorem dX11_about_92 : decode cX11_about 92 = .ok (.getfield 45, 3) := by decide +kernel
theorem dX11_about_95 : decode cX11_about 95 = .ok (.getfield 270, 3) := by decide +kernel
theorem dX11_about_98 : decode cX11_about 98 = .ok (.ireturn, 1) := by decide +kernel
theorem dX11_about_99 : decode cX11_about 99 = .ok (.iconst (-1), 1) := by decide +kernel
theorem dX11_about_100 : decode cX11_about 100 = .ok (.ireturn, 1) := by decide +kernel
theorem dX11_message_0 : decode cX11_message 0 = .ok (.iload_n 1, 1) := by decide +kernel
theorem dX11_message_1 : decode cX11_message 1 = .ok (.ifCond .lt 14, 3) := by decide +kernel
theorem dX11_message_4 : decode cX11_message 4 = .ok (.iload_n 1, 1) := by decide +kernel
theorem dX11_message_5 : decode cX11_message 5 = .ok (.aload_n 0, 1) := by decide +kernel
theorem dX11_message_6 : decode cX11_message 6 = .ok (.getfield 38, 3) := by decide +kernel
theorem dX11_message_9 : decode cX11_message 9 = .ok (.getfield 140, 3) := by decide +kernel
theorem dX11_message_12 : decode cX11_message 12 = .ok (.if_icmp .lt 5, 3) := by decide +kernel
theorem dX11_message_15 : decode cX11_message 15 = .ok (.iconst (-1), 1) := by decide +kernel
theorem dX11_message_16 : decode cX11_message 16 = .ok (.ireturn, 1) := by decide +kernel
theorem dX11_message_17 : decode cX11_message 17 = .ok (.aload_n 0, 1) := by decide +kernel
theorem dX11_message_18 : decode cX11_message 18 = .ok (.getfield 38, 3) := by decide +kernel
theorem dX11_message_21 : decode cX11_message 21 = .ok (.getfield 273, 3) := by decide +kernel
theorem dX11_message_24 : decode cX11_message 24 = .ok (.iload_n 1, 1) := by decide +kernel
theorem dX11_message_25 : decode cX11_message 25 = .ok (.aaload, 1) := by decide +kernel
theorem dX11_message_26 : decode cX11_message 26 = .ok (.astore_n 3, 1) := by decide +kernel
theorem dX11_message_27 : decode cX11_message 27 = .ok (.iload_n 2, 1) := by decide +kernel
theorem dX11_message_28 : decode cX11_message 28 = .ok (.tableswitch 52 0 3 #[32, 37, 42, 47], 32) := by decide +kernel
theorem dX11_message_60 : decode cX11_message 60 = .ok (.aload_n 3, 1) := by decide +kernel
theorem dX11_message_61 : decode cX11_message 61 = .ok (.getfield 277, 3) := by decide +kernel
theorem dX11_message_64 : decode cX11_message 64 = .ok (.ireturn, 1) := by decide +kernel
theorem dX11_message_65 : decode cX11_message 65 = .ok (.aload_n 3, 1) := by decide +kernel
theorem dX11_message_66 : decode cX11_message 66 = .ok (.getfield 281, 3) := by decide +kernel
theorem dX11_message_69 : decode cX11_message 69 = .ok (.ireturn, 1) := by decide +kernel
theorem dX11_message_70 : decode cX11_message 70 = .ok (.aload_n 3, 1) := by decide +kernel
theorem dX11_message_71 : decode cX11_message 71 = .ok (.getfield 283, 3) := by decide +kernel
theorem dX11_message_74 : decode cX11_message 74 = .ok (.ireturn, 1) := by decide +kernel
theorem dX11_message_75 : decode cX11_message 75 = .ok (.aload_n 3, 1) := by decide +kernel
theorem dX11_message_76 : decode cX11_message 76 = .ok (.getfield 286, 3) := by decide +kernel
theorem dX11_message_79 : decode cX11_message 79 = .ok (.ireturn, 1) := by decide +kernel
theorem dX11_message_80 : decode cX11_message 80 = .ok (.iconst (-1), 1) := by decide +kernel
theorem dX11_message_81 : decode cX11_message 81 = .ok (.ireturn, 1) := by decide +kernel
theorem dX11_broken_0 : decode cX11_broken 0 = .ok (.aload_n 0, 1) := by decide +kernel
theorem dX11_broken_1 : decode cX11_broken 1 = .ok (.getfield 45, 3) := by decide +kernel
theorem dX11_broken_4 : decode cX11_broken 4 = .ok (.invokevirtual 289, 3) := by decide +kernel
theorem dX11_broken_7 : decode cX11_broken 7 = .ok (.aload_n 0, 1) := by decide +kernel
theorem dX11_broken_8 : decode cX11_broken 8 = .ok (.getfield 51, 3) := by decide +kernel
theorem dX11_broken_11 : decode cX11_broken 11 = .ok (.astore_n 1, 1) := by decide +kernel
theorem dX11_broken_12 : decode cX11_broken 12 = .ok (.aload_n 1, 1) := by decide +kernel
theorem dX11_broken_13 : decode cX11_broken 13 = .ok (.arraylength, 1) := by decide +kernel
theorem dX11_broken_14 : decode cX11_broken 14 = .ok (.istore_n 2, 1) := by decide +kernel
theorem dX11_broken_15 : decode cX11_broken 15 = .ok (.iconst 0, 1) := by decide +kernel
theorem dX11_broken_16 : decode cX11_broken 16 = .ok (.istore_n 3, 1) := by decide +kernel
theorem dX11_broken_17 : decode cX11_broken 17 = .ok (.iload_n 3, 1) := by decide +kernel
theorem dX11_broken_18 : decode cX11_broken 18 = .ok (.iload_n 2, 1) := by decide +kernel
theorem dX11_broken_19 : decode cX11_broken 19 = .ok (.if_icmp .ge 64, 3) := by decide +kernel
theorem dX11_broken_22 : decode cX11_broken 22 = .ok (.aload_n 1, 1) := by decide +kernel
theorem dX11_broken_23 : decode cX11_broken 23 = .ok (.iload_n 3, 1) := by decide +kernel
theorem dX11_broken_24 : decode cX11_broken 24 = .ok (.aaload, 1) := by decide +kernel
theorem dX11_broken_25 : decode cX11_broken 25 = .ok (.astore 4, 2) := by decide +kernel
theorem dX11_broken_27 : decode cX11_broken 27 = .ok (.aload 4, 2) := by decide +kernel
theorem dX11_broken_29 : decode cX11_broken 29 = .ok (.invokevirtual 187, 3) := by decide +kernel
theorem dX11_broken_32 : decode cX11_broken 32 = .ok (.ifCond .eq 45, 3) := by decide +kernel
theorem dX11_broken_35 : decode cX11_broken 35 = .ok (.aload 4, 2) := by decide +kernel
theorem dX11_broken_37 : decode cX11_broken 37 = .ok (.getfield 191, 3) := by decide +kernel
theorem dX11_broken_40 : decode cX11_broken 40 = .ok (.iconst 2, 1) := by decide +kernel
theorem dX11_broken_41 : decode cX11_broken 41 = .ok (.if_icmp .eq 36, 3) := by decide +kernel
theorem dX11_broken_44 : decode cX11_broken 44 = .ok (.aload_n 0, 1) := by decide +kernel
theorem dX11_broken_45 : decode cX11_broken 45 = .ok (.getfield 31, 3) := by decide +kernel
theorem dX11_broken_48 : decode cX11_broken 48 = .ok (.aload 4, 2) := by decide +kernel
theorem dX11_broken_50 : decode cX11_broken 50 = .ok (.getfield 205, 3) := by decide +kernel
theorem dX11_broken_53 : decode cX11_broken 53 = .ok (.aload 4, 2) := by decide +kernel
theorem dX11_broken_55 : decode cX11_broken 55 = .ok (.getfield 205, 3) := by decide +kernel
theorem dX11_broken_58 : decode cX11_broken 58 = .ok (.getfield 209, 3) := by decide +kernel
theorem dX11_broken_61 : decode cX11_broken 61 = .ok (.invokevirtual 255, 3) := by decide +kernel
theorem dX11_broken_64 : decode cX11_broken 64 = .ok (.aload_n 0, 1) := by decide +kernel
theorem dX11_broken_65 : decode cX11_broken 65 = .ok (.getfield 45, 3) := by decide +kernel
theorem dX11_broken_68 : decode cX11_broken 68 = .ok (.aload 4, 2) := by decide +kernel
theorem dX11_broken_70 : decode cX11_broken 70 = .ok (.aload_n 0, 1) := by decide +kernel
theorem dX11_broken_71 : decode cX11_broken 71 = .ok (.getfield 31, 3) := by decide +kernel
theorem dX11_broken_74 : decode cX11_broken 74 = .ok (.invokevirtual 292, 3) := by decide +kernel
theorem dX11_broken_77 : decode cX11_broken 77 = .ok (.iinc 3 1, 3) := by decide +kernel
theorem dX11_broken_80 : decode cX11_broken 80 = .ok (.goto (-63), 3) := by decide +kernel
theorem dX11_broken_83 : decode cX11_broken 83 = .ok (.aload_n 0, 1) := by decide +kernel
theorem dX11_broken_84 : decode cX11_broken 84 = .ok (.getfield 45, 3) := by decide +kernel
theorem dX11_broken_87 : decode cX11_broken 87 = .ok (.invokevirtual 296, 3) := by decide +kernel
theorem dX11_broken_90 : decode cX11_broken 90 = .ok (.ireturn, 1) := by decide +kernel
theorem dX11_isClient_0 : decode cX11_isClient 0 = .ok (.iload_n 1, 1) := by decide +kernel
theorem dX11_isClient_1 : decode cX11_isClient 1 = .ok (.ifCond .lt 12, 3) := by decide +kernel
theorem dX11_isClient_4 : decode cX11_isClient 4 = .ok (.iload_n 1, 1) := by decide +kernel
theorem dX11_isClient_5 : decode cX11_isClient 5 = .ok (.iconst 4, 1) := by decide +kernel
theorem dX11_isClient_6 : decode cX11_isClient 6 = .ok (.if_icmp .ge 7, 3) := by decide +kernel
theorem dX11_isClient_9 : decode cX11_isClient 9 = .ok (.iconst 1, 1) := by decide +kernel
theorem dX11_isClient_10 : decode cX11_isClient 10 = .ok (.goto 4, 3) := by decide +kernel
theorem dX11_isClient_13 : decode cX11_isClient 13 = .ok (.iconst 0, 1) := by decide +kernel
theorem dX11_isClient_14 : decode cX11_isClient 14 = .ok (.ireturn, 1) := by decide +kernel
theorem dX11_isKey_0 : decode cX11_isKey 0 = .ok (.iload_n 1, 1) := by decide +kernel
theorem dX11_isKey_1 : decode cX11_isKey 1 = .ok (.ifCond .lt 13, 3) := by decide +kernel
theorem dX11_isKey_4 : decode cX11_isKey 4 = .ok (.iload_n 1, 1) := by decide +kernel
theorem dX11_isKey_5 : decode cX11_isKey 5 = .ok (.bipush 8, 2) := by decide +kernel
theorem dX11_isKey_7 : decode cX11_isKey 7 = .ok (.if_icmp .ge 7, 3) := by decide +kernel
theorem dX11_isKey_10 : decode cX11_isKey 10 = .ok (.iconst 1, 1) := by decide +kernel
theorem dX11_isKey_11 : decode cX11_isKey 11 = .ok (.goto 4, 3) := by decide +kernel
theorem dX11_isKey_14 : decode cX11_isKey 14 = .ok (.iconst 0, 1) := by decide +kernel
theorem dX11_isKey_15 : decode cX11_isKey 15 = .ok (.ireturn, 1) := by decide +kernel
theorem dX11_isReplica_0 : decode cX11_isReplica 0 = .ok (.iload_n 1, 1) := by decide +kernel
theorem dX11_isReplica_1 : decode cX11_isReplica 1 = .ok (.ifCond .lt 15, 3) := by decide +kernel
theorem dX11_isReplica_4 : decode cX11_isReplica 4 = .ok (.iload_n 1, 1) := by decide +kernel
theorem dX11_isReplica_5 : decode cX11_isReplica 5 = .ok (.aload_n 0, 1) := by decide +kernel
theorem dX11_isReplica_6 : decode cX11_isReplica 6 = .ok (.getfield 13, 3) := by decide +kernel
theorem dX11_isReplica_9 : decode cX11_isReplica 9 = .ok (.if_icmp .ge 7, 3) := by decide +kernel
theorem dX11_isReplica_12 : decode cX11_isReplica 12 = .ok (.iconst 1, 1) := by decide +kernel
theorem dX11_isReplica_13 : decode cX11_isReplica 13 = .ok (.goto 4, 3) := by decide +kernel
theorem dX11_isReplica_16 : decode cX11_isReplica 16 = .ok (.iconst 0, 1) := by decide +kernel
theorem dX11_isReplica_17 : decode cX11_isReplica 17 = .ok (.ireturn, 1) := by decide +kernel
theorem dX11_downNow_0 : decode cX11_downNow 0 = .ok (.iconst 0, 1) := by decide +kernel
theorem dX11_downNow_1 : decode cX11_downNow 1 = .ok (.istore_n 1, 1) := by decide +kernel
theorem dX11_downNow_2 : decode cX11_downNow 2 = .ok (.aload_n 0, 1) := by decide +kernel
theorem dX11_downNow_3 : decode cX11_downNow 3 = .ok (.getfield 51, 3) := by decide +kernel
theorem dX11_downNow_6 : decode cX11_downNow 6 = .ok (.astore_n 2, 1) := by decide +kernel
theorem dX11_downNow_7 : decode cX11_downNow 7 = .ok (.aload_n 2, 1) := by decide +kernel
theorem dX11_downNow_8 : decode cX11_downNow 8 = .ok (.arraylength, 1) := by decide +kernel
theorem dX11_downNow_9 : decode cX11_downNow 9 = .ok (.istore_n 3, 1) := by decide +kernel
theorem dX11_downNow_10 : decode cX11_downNow 10 = .ok (.iconst 0, 1) := by decide +kernel
theorem dX11_downNow_11 : decode cX11_downNow 11 = .ok (.istore 4, 2) := by decide +kernel
theorem dX11_downNow_13 : decode cX11_downNow 13 = .ok (.iload 4, 2) := by decide +kernel
theorem dX11_downNow_15 : decode cX11_downNow 15 = .ok (.iload_n 3, 1) := by decide +kernel
theorem dX11_downNow_16 : decode cX11_downNow 16 = .ok (.if_icmp .ge 26, 3) := by decide +kernel
theorem dX11_downNow_19 : decode cX11_downNow 19 = .ok (.aload_n 2, 1) := by decide +kernel
theorem dX11_downNow_20 : decode cX11_downNow 20 = .ok (.iload 4, 2) := by decide +kernel
theorem dX11_downNow_22 : decode cX11_downNow 22 = .ok (.aaload, 1) := by decide +kernel
theorem dX11_downNow_23 : decode cX11_downNow 23 = .ok (.astore 5, 2) := by decide +kernel
theorem dX11_downNow_25 : decode cX11_downNow 25 = .ok (.aload 5, 2) := by decide +kernel
theorem dX11_downNow_27 : decode cX11_downNow 27 = .ok (.getfield 148, 3) := by decide +kernel
theorem dX11_downNow_30 : decode cX11_downNow 30 = .ok (.ifCond .eq 6, 3) := by decide +kernel
theorem dX11_downNow_33 : decode cX11_downNow 33 = .ok (.iinc 1 1, 3) := by decide +kernel
theorem dX11_downNow_36 : decode cX11_downNow 36 = .ok (.iinc 4 1, 3) := by decide +kernel
theorem dX11_downNow_39 : decode cX11_downNow 39 = .ok (.goto (-26), 3) := by decide +kernel
theorem dX11_downNow_42 : decode cX11_downNow 42 = .ok (.iload_n 1, 1) := by decide +kernel
theorem dX11_downNow_43 : decode cX11_downNow 43 = .ok (.ireturn, 1) := by decide +kernel
theorem dX11_stamp_0 : decode cX11_stamp 0 = .ok (.aload_n 0, 1) := by decide +kernel
theorem dX11_stamp_1 : decode cX11_stamp 1 = .ok (.getfield 67, 3) := by decide +kernel
theorem dX11_stamp_4 : decode cX11_stamp 4 = .ok (.ifCond .ne 4, 3) := by decide +kernel
theorem dX11_stamp_7 : decode cX11_stamp 7 = .ok (.return_, 1) := by decide +kernel
theorem dX11_stamp_8 : decode cX11_stamp 8 = .ok (.aload_n 0, 1) := by decide +kernel
theorem dX11_stamp_9 : decode cX11_stamp 9 = .ok (.dup, 1) := by decide +kernel
theorem dX11_stamp_10 : decode cX11_stamp 10 = .ok (.getfield 199, 3) := by decide +kernel
theorem dX11_stamp_13 : decode cX11_stamp 13 = .ok (.iconst 1, 1) := by decide +kernel
theorem dX11_stamp_14 : decode cX11_stamp 14 = .ok (.iadd, 1) := by decide +kernel
theorem dX11_stamp_15 : decode cX11_stamp 15 = .ok (.putfield 199, 3) := by decide +kernel
theorem dX11_stamp_18 : decode cX11_stamp 18 = .ok (.iconst 0, 1) := by decide +kernel
theorem dX11_stamp_19 : decode cX11_stamp 19 = .ok (.istore_n 2, 1) := by decide +kernel
theorem dX11_stamp_20 : decode cX11_stamp 20 = .ok (.iload_n 2, 1) := by decide +kernel
theorem dX11_stamp_21 : decode cX11_stamp 21 = .ok (.aload_n 0, 1) := by decide +kernel
theorem dX11_stamp_22 : decode cX11_stamp 22 = .ok (.getfield 13, 3) := by decide +kernel
theorem dX11_stamp_25 : decode cX11_stamp 25 = .ok (.if_icmp .ge 41, 3) := by decide +kernel
theorem dX11_stamp_28 : decode cX11_stamp 28 = .ok (.aload_n 0, 1) := by decide +kernel
theorem dX11_stamp_29 : decode cX11_stamp 29 = .ok (.getfield 38, 3) := by decide +kernel
theorem dX11_stamp_32 : decode cX11_stamp 32 = .ok (.iconst 0, 1) := by decide +kernel
theorem dX11_stamp_33 : decode cX11_stamp 33 = .ok (.iconst (-1), 1) := by decide +kernel
theorem dX11_stamp_34 : decode cX11_stamp 34 = .ok (.iload_n 2, 1) := by decide +kernel
theorem dX11_stamp_35 : decode cX11_stamp 35 = .ok (.invokevirtual 299, 3) := by decide +kernel
theorem dX11_stamp_38 : decode cX11_stamp 38 = .ok (.astore_n 3, 1) := by decide +kernel
theorem dX11_stamp_39 : decode cX11_stamp 39 = .ok (.aload_n 3, 1) := by decide +kernel
theorem dX11_stamp_40 : decode cX11_stamp 40 = .ok (.aload_n 0, 1) := by decide +kernel
theorem dX11_stamp_41 : decode cX11_stamp 41 = .ok (.getfield 71, 3) := by decide +kernel
theorem dX11_stamp_44 : decode cX11_stamp 44 = .ok (.putfield 303, 3) := by decide +kernel
theorem dX11_stamp_47 : decode cX11_stamp 47 = .ok (.aload_n 3, 1) := by decide +kernel
theorem dX11_stamp_48 : decode cX11_stamp 48 = .ok (.aload_n 0, 1) := by decide +kernel
theorem dX11_stamp_49 : decode cX11_stamp 49 = .ok (.getfield 199, 3) := by decide +kernel
theorem dX11_stamp_52 : decode cX11_stamp 52 = .ok (.putfield 304, 3) := by decide +kernel
theorem dX11_stamp_55 : decode cX11_stamp 55 = .ok (.aload_n 3, 1) := by decide +kernel
theorem dX11_stamp_56 : decode cX11_stamp 56 = .ok (.iload_n 1, 1) := by decide +kernel
theorem dX11_stamp_57 : decode cX11_stamp 57 = .ok (.putfield 307, 3) := by decide +kernel
theorem dX11_stamp_60 : decode cX11_stamp 60 = .ok (.iinc 2 1, 3) := by decide +kernel
theorem dX11_stamp_63 : decode cX11_stamp 63 = .ok (.goto (-43), 3) := by decide +kernel
theorem dX11_stamp_66 : decode cX11_stamp 66 = .ok (.return_, 1) := by decide +kernel
theorem dX11_handOver_0 : decode cX11_handOver 0 = .ok (.aload_n 1, 1) := by decide +kernel
theorem dX11_handOver_1 : decode cX11_handOver 1 = .ok (.getfield 281, 3) := by decide +kernel
theorem dX11_handOver_4 : decode cX11_handOver 4 = .ok (.bipush 11, 2) := by decide +kernel
theorem dX11_handOver_6 : decode cX11_handOver 6 = .ok (.if_icmp .ne 45, 3) := by decide +kernel
theorem dX11_handOver_9 : decode cX11_handOver 9 = .ok (.aload_n 0, 1) := by decide +kernel
theorem dX11_handOver_10 : decode cX11_handOver 10 = .ok (.getfield 60, 3) := by decide +kernel
theorem dX11_handOver_13 : decode cX11_handOver 13 = .ok (.aload_n 1, 1) := by decide +kernel
theorem dX11_handOver_14 : decode cX11_handOver 14 = .ok (.getfield 286, 3) := by decide +kernel
theorem dX11_handOver_17 : decode cX11_handOver 17 = .ok (.aaload, 1) := by decide +kernel
theorem dX11_handOver_18 : decode cX11_handOver 18 = .ok (.astore_n 2, 1) := by decide +kernel
theorem dX11_handOver_19 : decode cX11_handOver 19 = .ok (.aload_n 2, 1) := by decide +kernel
theorem dX11_handOver_20 : decode cX11_handOver 20 = .ok (.aload_n 1, 1) := by decide +kernel
theorem dX11_handOver_21 : decode cX11_handOver 21 = .ok (.invokevirtual 310, 3) := by decide +kernel
theorem dX11_handOver_24 : decode cX11_handOver 24 = .ok (.ifCond .eq 26, 3) := by decide +kernel
theorem dX11_handOver_27 : decode cX11_handOver 27 = .ok (.aload_n 0, 1) := by decide +kernel
theorem dX11_handOver_28 : decode cX11_handOver 28 = .ok (.getfield 45, 3) := by decide +kernel
theorem dX11_handOver_31 : decode cX11_handOver 31 = .ok (.aload_n 2, 1) := by decide +kernel
theorem dX11_handOver_32 : decode cX11_handOver 32 = .ok (.getfield 118, 3) := by decide +kernel
theorem dX11_handOver_35 : decode cX11_handOver 35 = .ok (.aload_n 2, 1) := by decide +kernel
theorem dX11_handOver_36 : decode cX11_handOver 36 = .ok (.getfield 264, 3) := by decide +kernel
theorem dX11_handOver_39 : decode cX11_handOver 39 = .ok (.aload_n 2, 1) := by decide +kernel
theorem dX11_handOver_40 : decode cX11_handOver 40 = .ok (.getfield 261, 3) := by decide +kernel
theorem dX11_handOver_43 : decode cX11_handOver 43 = .ok (.aload_n 2, 1) := by decide +kernel
theorem dX11_handOver_44 : decode cX11_handOver 44 = .ok (.getfield 267, 3) := by decide +kernel
theorem dX11_handOver_47 : decode cX11_handOver 47 = .ok (.invokevirtual 314, 3) := by decide +kernel
theorem dX11_handOver_50 : decode cX11_handOver 50 = .ok (.return_, 1) := by decide +kernel
theorem dX11_handOver_51 : decode cX11_handOver 51 = .ok (.aload_n 0, 1) := by decide +kernel
theorem dX11_handOver_52 : decode cX11_handOver 52 = .ok (.getfield 51, 3) := by decide +kernel
theorem dX11_handOver_55 : decode cX11_handOver 55 = .ok (.aload_n 1, 1) := by decide +kernel
theorem dX11_handOver_56 : decode cX11_handOver 56 = .ok (.getfield 286, 3) := by decide +kernel
theorem dX11_handOver_59 : decode cX11_handOver 59 = .ok (.aaload, 1) := by decide +kernel
theorem dX11_handOver_60 : decode cX11_handOver 60 = .ok (.astore_n 2, 1) := by decide +kernel
theorem dX11_handOver_61 : decode cX11_handOver 61 = .ok (.aload_n 2, 1) := by decide +kernel
theorem dX11_handOver_62 : decode cX11_handOver 62 = .ok (.getfield 148, 3) := by decide +kernel
theorem dX11_handOver_65 : decode cX11_handOver 65 = .ok (.ifCond .eq 19, 3) := by decide +kernel
theorem dX11_handOver_68 : decode cX11_handOver 68 = .ok (.aload_n 0, 1) := by decide +kernel
theorem dX11_handOver_69 : decode cX11_handOver 69 = .ok (.getfield 38, 3) := by decide +kernel
theorem dX11_handOver_72 : decode cX11_handOver 72 = .ok (.dup, 1) := by decide +kernel
theorem dX11_handOver_73 : decode cX11_handOver 73 = .ok (.getfield 135, 3) := by decide +kernel
theorem dX11_handOver_76 : decode cX11_handOver 76 = .ok (.iconst 1, 1) := by decide +kernel
theorem dX11_handOver_77 : decode cX11_handOver 77 = .ok (.iadd, 1) := by decide +kernel
theorem dX11_handOver_78 : decode cX11_handOver 78 = .ok (.putfield 135, 3) := by decide +kernel
theorem dX11_handOver_81 : decode cX11_handOver 81 = .ok (.goto 72, 3) := by decide +kernel
theorem dX11_handOver_84 : decode cX11_handOver 84 = .ok (.aload_n 1, 1) := by decide +kernel
theorem dX11_handOver_85 : decode cX11_handOver 85 = .ok (.getfield 281, 3) := by decide +kernel
theorem dX11_handOver_88 : decode cX11_handOver 88 = .ok (.ifCond .ne 11, 3) := by decide +kernel
theorem dX11_handOver_91 : decode cX11_handOver 91 = .ok (.aload_n 2, 1) := by decide +kernel
theorem dX11_handOver_92 : decode cX11_handOver 92 = .ok (.aload_n 1, 1) := by decide +kernel
theorem dX11_handOver_93 : decode cX11_handOver 93 = .ok (.invokevirtual 317, 3) := by decide +kernel
theorem dX11_handOver_96 : decode cX11_handOver 96 = .ok (.goto 57, 3) := by decide +kernel
theorem dX11_handOver_99 : decode cX11_handOver 99 = .ok (.aload_n 1, 1) := by decide +kernel
theorem dX11_handOver_100 : decode cX11_handOver 100 = .ok (.getfield 281, 3) := by decide +kernel
theorem dX11_handOver_103 : decode cX11_handOver 103 = .ok (.bipush 8, 2) := by decide +kernel
theorem dX11_handOver_105 : decode cX11_handOver 105 = .ok (.if_icmp .eq 21, 3) := by decide +kernel
theorem dX11_handOver_108 : decode cX11_handOver 108 = .ok (.aload_n 1, 1) := by decide +kernel
theorem dX11_handOver_109 : decode cX11_handOver 109 = .ok (.getfield 281, 3) := by decide +kernel
theorem dX11_handOver_112 : decode cX11_handOver 112 = .ok (.bipush 9, 2) := by decide +kernel
theorem dX11_handOver_114 : decode cX11_handOver 114 = .ok (.if_icmp .eq 12, 3) := by decide +kernel
theorem dX11_handOver_117 : decode cX11_handOver 117 = .ok (.aload_n 1, 1) := by decide +kernel
theorem dX11_handOver_118 : decode cX11_handOver 118 = .ok (.getfield 281, 3) := by decide +kernel
theorem dX11_handOver_121 : decode cX11_handOver 121 = .ok (.bipush 10, 2) := by decide +kernel
theorem dX11_handOver_123 : decode cX11_handOver 123 = .ok (.if_icmp .ne 11, 3) := by decide +kernel
theorem dX11_handOver_126 : decode cX11_handOver 126 = .ok (.aload_n 2, 1) := by decide +kernel
theorem dX11_handOver_127 : decode cX11_handOver 127 = .ok (.aload_n 1, 1) := by decide +kernel
theorem dX11_handOver_128 : decode cX11_handOver 128 = .ok (.invokevirtual 320, 3) := by decide +kernel
theorem dX11_handOver_131 : decode cX11_handOver 131 = .ok (.goto 22, 3) := by decide +kernel
theorem dX11_handOver_134 : decode cX11_handOver 134 = .ok (.aload_n 1, 1) := by decide +kernel
theorem dX11_handOver_135 : decode cX11_handOver 135 = .ok (.getfield 323, 3) := by decide +kernel
theorem dX11_handOver_138 : decode cX11_handOver 138 = .ok (.aload_n 2, 1) := by decide +kernel
theorem dX11_handOver_139 : decode cX11_handOver 139 = .ok (.getfield 166, 3) := by decide +kernel
theorem dX11_handOver_142 : decode cX11_handOver 142 = .ok (.invokevirtual 324, 3) := by decide +kernel
theorem dX11_handOver_145 : decode cX11_handOver 145 = .ok (.ifCond .eq 8, 3) := by decide +kernel
theorem dX11_handOver_148 : decode cX11_handOver 148 = .ok (.aload_n 2, 1) := by decide +kernel
theorem dX11_handOver_149 : decode cX11_handOver 149 = .ok (.aload_n 1, 1) := by decide +kernel
theorem dX11_handOver_150 : decode cX11_handOver 150 = .ok (.invokevirtual 328, 3) := by decide +kernel
theorem dX11_handOver_153 : decode cX11_handOver 153 = .ok (.return_, 1) := by decide +kernel
theorem dJ6_bitCount_0f7a4_0 : decode cJ6_bitCount_0f7a4 0 = .ok (.iload_n 0, 1) := by decide +kernel
theorem dJ6_bitCount_0f7a4_1 : decode cJ6_bitCount_0f7a4 1 = .ok (.iload_n 0, 1) := by decide +kernel
theorem dJ6_bitCount_0f7a4_2 : decode cJ6_bitCount_0f7a4 2 = .ok (.iconst 1, 1) := by decide +kernel
theorem dJ6_bitCount_0f7a4_3 : decode cJ6_bitCount_0f7a4 3 = .ok (.iushr, 1) := by decide +kernel
theorem dJ6_bitCount_0f7a4_4 : decode cJ6_bitCount_0f7a4 4 = .ok (.ldc_w 265, 3) := by decide +kernel
theorem dJ6_bitCount_0f7a4_7 : decode cJ6_bitCount_0f7a4 7 = .ok (.iand, 1) := by decide +kernel
theorem dJ6_bitCount_0f7a4_8 : decode cJ6_bitCount_0f7a4 8 = .ok (.isub, 1) := by decide +kernel
theorem dJ6_bitCount_0f7a4_9 : decode cJ6_bitCount_0f7a4 9 = .ok (.istore_n 0, 1) := by decide +kernel
theorem dJ6_bitCount_0f7a4_10 : decode cJ6_bitCount_0f7a4 10 = .ok (.iload_n 0, 1) := by decide +kernel
theorem dJ6_bitCount_0f7a4_11 : decode cJ6_bitCount_0f7a4 11 = .ok (.ldc_w 266, 3) := by decide +kernel
theorem dJ6_bitCount_0f7a4_14 : decode cJ6_bitCount_0f7a4 14 = .ok (.iand, 1) := by decide +kernel
theorem dJ6_bitCount_0f7a4_15 : decode cJ6_bitCount_0f7a4 15 = .ok (.iload_n 0, 1) := by decide +kernel
theorem dJ6_bitCount_0f7a4_16 : decode cJ6_bitCount_0f7a4 16 = .ok (.iconst 2, 1) := by decide +kernel
theorem dJ6_bitCount_0f7a4_17 : decode cJ6_bitCount_0f7a4 17 = .ok (.iushr, 1) := by decide +kernel
theorem dJ6_bitCount_0f7a4_18 : decode cJ6_bitCount_0f7a4 18 = .ok (.ldc_w 266, 3) := by decide +kernel
theorem dJ6_bitCount_0f7a4_21 : decode cJ6_bitCount_0f7a4 21 = .ok (.iand, 1) := by decide +kernel
theorem dJ6_bitCount_0f7a4_22 : decode cJ6_bitCount_0f7a4 22 = .ok (.iadd, 1) := by decide +kernel
theorem dJ6_bitCount_0f7a4_23 : decode cJ6_bitCount_0f7a4 23 = .ok (.istore_n 0, 1) := by decide +kernel
theorem dJ6_bitCount_0f7a4_24 : decode cJ6_bitCount_0f7a4 24 = .ok (.iload_n 0, 1) := by decide +kernel
theorem dJ6_bitCount_0f7a4_25 : decode cJ6_bitCount_0f7a4 25 = .ok (.iload_n 0, 1) := by decide +kernel
theorem dJ6_bitCount_0f7a4_26 : decode cJ6_bitCount_0f7a4 26 = .ok (.iconst 4, 1) := by decide +kernel
theorem dJ6_bitCount_0f7a4_27 : decode cJ6_bitCount_0f7a4 27 = .ok (.iushr, 1) := by decide +kernel
theorem dJ6_bitCount_0f7a4_28 : decode cJ6_bitCount_0f7a4 28 = .ok (.iadd, 1) := by decide +kernel
theorem dJ6_bitCount_0f7a4_29 : decode cJ6_bitCount_0f7a4 29 = .ok (.ldc_w 267, 3) := by decide +kernel
theorem dJ6_bitCount_0f7a4_32 : decode cJ6_bitCount_0f7a4 32 = .ok (.iand, 1) := by decide +kernel
theorem dJ6_bitCount_0f7a4_33 : decode cJ6_bitCount_0f7a4 33 = .ok (.istore_n 0, 1) := by decide +kernel
theorem dJ6_bitCount_0f7a4_34 : decode cJ6_bitCount_0f7a4 34 = .ok (.iload_n 0, 1) := by decide +kernel
theorem dJ6_bitCount_0f7a4_35 : decode cJ6_bitCount_0f7a4 35 = .ok (.iload_n 0, 1) := by decide +kernel
theorem dJ6_bitCount_0f7a4_36 : decode cJ6_bitCount_0f7a4 36 = .ok (.bipush 8, 2) := by decide +kernel
theorem dJ6_bitCount_0f7a4_38 : decode cJ6_bitCount_0f7a4 38 = .ok (.iushr, 1) := by decide +kernel
theorem dJ6_bitCount_0f7a4_39 : decode cJ6_bitCount_0f7a4 39 = .ok (.iadd, 1) := by decide +kernel
theorem dJ6_bitCount_0f7a4_40 : decode cJ6_bitCount_0f7a4 40 = .ok (.istore_n 0, 1) := by decide +kernel
theorem dJ6_bitCount_0f7a4_41 : decode cJ6_bitCount_0f7a4 41 = .ok (.iload_n 0, 1) := by decide +kernel
theorem dJ6_bitCount_0f7a4_42 : decode cJ6_bitCount_0f7a4 42 = .ok (.iload_n 0, 1) := by decide +kernel
theorem dJ6_bitCount_0f7a4_43 : decode cJ6_bitCount_0f7a4 43 = .ok (.bipush 16, 2) := by decide +kernel
theorem dJ6_bitCount_0f7a4_45 : decode cJ6_bitCount_0f7a4 45 = .ok (.iushr, 1) := by decide +kernel
theorem dJ6_bitCount_0f7a4_46 : decode cJ6_bitCount_0f7a4 46 = .ok (.iadd, 1) := by decide +kernel
theorem dJ6_bitCount_0f7a4_47 : decode cJ6_bitCount_0f7a4 47 = .ok (.istore_n 0, 1) := by decide +kernel
theorem dJ6_bitCount_0f7a4_48 : decode cJ6_bitCount_0f7a4 48 = .ok (.iload_n 0, 1) := by decide +kernel
theorem dJ6_bitCount_0f7a4_49 : decode cJ6_bitCount_0f7a4 49 = .ok (.bipush 63, 2) := by decide +kernel
theorem dJ6_bitCount_0f7a4_51 : decode cJ6_bitCount_0f7a4 51 = .ok (.iand, 1) := by decide +kernel
theorem dJ6_bitCount_0f7a4_52 : decode cJ6_bitCount_0f7a4 52 = .ok (.ireturn, 1) := by decide +kernel
theorem dJ9_floorMod_7cf53_0 : decode cJ9_floorMod_7cf53 0 = .ok (.iload_n 0, 1) := by decide +kernel
theorem dJ9_floorMod_7cf53_1 : decode cJ9_floorMod_7cf53 1 = .ok (.iload_n 1, 1) := by decide +kernel
theorem dJ9_floorMod_7cf53_2 : decode cJ9_floorMod_7cf53 2 = .ok (.irem, 1) := by decide +kernel
theorem dJ9_floorMod_7cf53_3 : decode cJ9_floorMod_7cf53 3 = .ok (.istore_n 2, 1) := by decide +kernel
theorem dJ9_floorMod_7cf53_4 : decode cJ9_floorMod_7cf53 4 = .ok (.iload_n 0, 1) := by decide +kernel
theorem dJ9_floorMod_7cf53_5 : decode cJ9_floorMod_7cf53 5 = .ok (.iload_n 1, 1) := by decide +kernel
theorem dJ9_floorMod_7cf53_6 : decode cJ9_floorMod_7cf53 6 = .ok (.ixor, 1) := by decide +kernel
theorem dJ9_floorMod_7cf53_7 : decode cJ9_floorMod_7cf53 7 = .ok (.ifCond .ge 11, 3) := by decide +kernel
theorem dJ9_floorMod_7cf53_10 : decode cJ9_floorMod_7cf53 10 = .ok (.iload_n 2, 1) := by decide +kernel
theorem dJ9_floorMod_7cf53_11 : decode cJ9_floorMod_7cf53 11 = .ok (.ifCond .eq 7, 3) := by decide +kernel
theorem dJ9_floorMod_7cf53_14 : decode cJ9_floorMod_7cf53 14 = .ok (.iload_n 2, 1) := by decide +kernel
theorem dJ9_floorMod_7cf53_15 : decode cJ9_floorMod_7cf53 15 = .ok (.iload_n 1, 1) := by decide +kernel
theorem dJ9_floorMod_7cf53_16 : decode cJ9_floorMod_7cf53 16 = .ok (.iadd, 1) := by decide +kernel
theorem dJ9_floorMod_7cf53_17 : decode cJ9_floorMod_7cf53 17 = .ok (.ireturn, 1) := by decide +kernel
theorem dJ9_floorMod_7cf53_18 : decode cJ9_floorMod_7cf53 18 = .ok (.iload_n 2, 1) := by decide +kernel
theorem dJ9_floorMod_7cf53_19 : decode cJ9_floorMod_7cf53 19 = .ok (.ireturn, 1) := by decide +kernel
theorem dJ9_max_7cf53_0 : decode cJ9_max_7cf53 0 = .ok (.iload_n 0, 1) := by decide +kernel
theorem dJ9_max_7cf53_1 : decode cJ9_max_7cf53 1 = .ok (.iload_n 1, 1) := by decide +kernel
theorem dJ9_max_7cf53_2 : decode cJ9_max_7cf53 2 = .ok (.if_icmp .lt 7, 3) := by decide +kernel
theorem dJ9_max_7cf53_5 : decode cJ9_max_7cf53 5 = .ok (.iload_n 0, 1) := by decide +kernel
theorem dJ9_max_7cf53_6 : decode cJ9_max_7cf53 6 = .ok (.goto 4, 3) := by decide +kernel
theorem dJ9_max_7cf53_9 : decode cJ9_max_7cf53 9 = .ok (.iload_n 1, 1) := by decide +kernel
theorem dJ9_max_7cf53_10 : decode cJ9_max_7cf53 10 = .ok (.ireturn, 1) := by decide +kernel
theorem dJ9_min_7cf53_0 : decode cJ9_min_7cf53 0 = .ok (.iload_n 0, 1) := by decide +kernel
theorem dJ9_min_7cf53_1 : decode cJ9_min_7cf53 1 = .ok (.iload_n 1, 1) := by decide +kernel
theorem dJ9_min_7cf53_2 : decode cJ9_min_7cf53 2 = .ok (.if_icmp .gt 7, 3) := by decide +kernel
theorem dJ9_min_7cf53_5 : decode cJ9_min_7cf53 5 = .ok (.iload_n 0, 1) := by decide +kernel
theorem dJ9_min_7cf53_6 : decode cJ9_min_7cf53 6 = .ok (.goto 4, 3) := by decide +kernel
theorem dJ9_min_7cf53_9 : decode cJ9_min_7cf53 9 = .ok (.iload_n 1, 1) := by decide +kernel
theorem dJ9_min_7cf53_10 : decode cJ9_min_7cf53 10 = .ok (.ireturn, 1) := by decide +kernel
theorem dJ7_fill_53178_0 : decode cJ7_fill_53178 0 = .ok (.iconst 0, 1) := by decide +kernel
theorem dJ7_fill_53178_1 : decode cJ7_fill_53178 1 = .ok (.istore_n 2, 1) := by decide +kernel
theorem dJ7_fill_53178_2 : decode cJ7_fill_53178 2 = .ok (.aload_n 0, 1) := by decide +kernel
theorem dJ7_fill_53178_3 : decode cJ7_fill_53178 3 = .ok (.arraylength, 1) := by decide +kernel
theorem dJ7_fill_53178_4 : decode cJ7_fill_53178 4 = .ok (.istore_n 3, 1) := by decide +kernel
theorem dJ7_fill_53178_5 : decode cJ7_fill_53178 5 = .ok (.iload_n 2, 1) := by decide +kernel
theorem dJ7_fill_53178_6 : decode cJ7_fill_53178 6 = .ok (.iload_n 3, 1) := by decide +kernel
theorem dJ7_fill_53178_7 : decode cJ7_fill_53178 7 = .ok (.if_icmp .ge 13, 3) := by decide +kernel
theorem dJ7_fill_53178_10 : decode cJ7_fill_53178 10 = .ok (.aload_n 0, 1) := by decide +kernel
theorem dJ7_fill_53178_11 : decode cJ7_fill_53178 11 = .ok (.iload_n 2, 1) := by decide +kernel
theorem dJ7_fill_53178_12 : decode cJ7_fill_53178 12 = .ok (.iload_n 1, 1) := by decide +kernel
theorem dJ7_fill_53178_13 : decode cJ7_fill_53178 13 = .ok (.iastore, 1) := by decide +kernel
theorem dJ7_fill_53178_14 : decode cJ7_fill_53178 14 = .ok (.iinc 2 1, 3) := by decide +kernel
theorem dJ7_fill_53178_17 : decode cJ7_fill_53178 17 = .ok (.goto (-12), 3) := by decide +kernel
theorem dJ7_fill_53178_20 : decode cJ7_fill_53178 20 = .ok (.return_, 1) := by decide +kernel
end
section
theorem dX12_init_0 : decode cX12_init 0 = .ok (.aload_n 0, 1) := by decide +kernel
theorem dX12_init_1 : decode cX12_init 1 = .ok (.invokespecial 1, 3) := by decide +kernel
theorem dX12_init_4 : decode cX12_init 4 = .ok (.aload_n 0, 1) := by decide +kernel
theorem dX12_init_5 : decode cX12_init 5 = .ok (.sipush 4097, 3) := by decide +kernel
theorem dX12_init_8 : decode cX12_init 8 = .ok (.newarray .int, 2) := by decide +kernel
theorem dX12_init_10 : decode cX12_init 10 = .ok (.putfield 7, 3) := by decide +kernel
theorem dX12_init_13 : decode cX12_init 13 = .ok (.aload_n 0, 1) := by decide +kernel
theorem dX12_init_14 : decode cX12_init 14 = .ok (.sipush 4097, 3) := by decide +kernel
theorem dX12_init_17 : decode cX12_init 17 = .ok (.newarray .int, 2) := by decide +kernel
theorem dX12_init_19 : decode cX12_init 19 = .ok (.putfield 13, 3) := by decide +kernel
theorem dX12_init_22 : decode cX12_init 22 = .ok (.aload_n 0, 1) := by decide +kernel
theorem dX12_init_23 : decode cX12_init 23 = .ok (.sipush 4097, 3) := by decide +kernel
theorem dX12_init_26 : decode cX12_init 26 = .ok (.newarray .int, 2) := by decide +kernel
theorem dX12_init_28 : decode cX12_init 28 = .ok (.putfield 16, 3) := by decide +kernel
theorem dX12_init_31 : decode cX12_init 31 = .ok (.aload_n 0, 1) := by decide +kernel
theorem dX12_init_32 : decode cX12_init 32 = .ok (.sipush 4097, 3) := by decide +kernel
theorem dX12_init_35 : decode cX12_init 35 = .ok (.newarray .int, 2) := by decide +kernel
theorem dX12_init_37 : decode cX12_init 37 = .ok (.putfield 19, 3) := by decide +kernel
theorem dX12_init_40 : decode cX12_init 40 = .ok (.aload_n 0, 1) := by decide +kernel
theorem dX12_init_41 : decode cX12_init 41 = .ok (.sipush 4097, 3) := by decide +kernel
theorem dX12_init_44 : decode cX12_init 44 = .ok (.newarray .int, 2) := by decide +kernel
theorem dX12_init_46 : decode cX12_init 46 = .ok (.putfield 22, 3) := by decide +kernel
theorem dX12_init_49 : decode cX12_init 49 = .ok (.aload_n 0, 1) := by decide +kernel
theorem dX12_init_50 : decode cX12_init 50 = .ok (.iconst 1, 1) := by decide +kernel
theorem dX12_init_51 : decode cX12_init 51 = .ok (.putfield 25, 3) := by decide +kernel
theorem dX12_init_54 : decode cX12_init 54 = .ok (.aload_n 0, 1) := by decide +kernel
theorem dX12_init_55 : decode cX12_init 55 = .ok (.iconst 1, 1) := by decide +kernel
theorem dX12_init_56 : decode cX12_init 56 = .ok (.putfield 29, 3) := by decide +kernel
theorem dX12_init_59 : decode cX12_init 59 = .ok (.aload_n 0, 1) := by decide +kernel
theorem dX12_init_60 : decode cX12_init 60 = .ok (.sipush 200, 3) := by decide +kernel
theorem dX12_init_63 : decode cX12_init 63 = .ok (.newarray .int, 2) := by decide +kernel
theorem dX12_init_65 : decode cX12_init 65 = .ok (.putfield 33, 3) := by decide +kernel
theorem dX12_init_68 : decode cX12_init 68 = .ok (.aload_n 0, 1) := by decide +kernel
theorem dX12_init_69 : decode cX12_init 69 = .ok (.sipush 200, 3) := by decide +kernel
theorem dX12_init_72 : decode cX12_init 72 = .ok (.newarray .int, 2) := by decide +kernel
theorem dX12_init_74 : decode cX12_init 74 = .ok (.putfield 36, 3) := by decide +kernel
theorem dX12_init_77 : decode cX12_init 77 = .ok (.aload_n 0, 1) := by decide +kernel
theorem dX12_init_78 : decode cX12_init 78 = .ok (.sipush 200, 3) := by decide +kernel
theorem dX12_init_81 : decode cX12_init 81 = .ok (.newarray .int, 2) := by decide +kernel
theorem dX12_init_83 : decode cX12_init 83 = .ok (.putfield 39, 3) := by decide +kernel
theorem dX12_init_86 : decode cX12_init 86 = .ok (.aload_n 0, 1) := by decide +kernel
theorem dX12_init_87 : decode cX12_init 87 = .ok (.sipush 200, 3) := by decide +kernel
theorem dX12_init_90 : decode cX12_init 90 = .ok (.newarray .int, 2) := by decide +kernel
theorem dX12_init_92 : decode cX12_init 92 = .ok (.putfield 42, 3) := by decide +kernel
theorem dX12_init_95 : decode cX12_init 95 = .ok (.aload_n 0, 1) := by decide +kernel
theorem dX12_init_96 : decode cX12_init 96 = .ok (.sipush 200, 3) := by decide +kernel
theorem dX12_init_99 : decode cX12_init 99 = .ok (.newarray .int, 2) := by decide +kernel
theorem dX12_init_101 : decode cX12_init 101 = .ok (.putfield 45, 3) := by decide +kernel
theorem dX12_init_104 : decode cX12_init 104 = .ok (.aload_n 0, 1) := by decide +kernel
theorem dX12_init_105 : decode cX12_init 105 = .ok (.sipush 200, 3) := by decide +kernel
theorem dX12_init_108 : decode cX12_init 108 = .ok (.newarray .int, 2) := by decide +kernel
theorem dX12_init_110 : decode cX12_init 110 = .ok (.putfield 48, 3) := by decide +kernel
theorem dX12_init_113 : decode cX12_init 113 = .ok (.aload_n 0, 1) := by decide +kernel
theorem dX12_init_114 : decode cX12_init 114 = .ok (.sipush 200, 3) := by decide +kernel
theorem dX12_init_117 : decode cX12_init 117 = .ok (.newarray .int, 2) := by decide +kernel
theorem dX12_init_119 : decode cX12_init 119 = .ok (.putfield 51, 3) := by decide +kernel
theorem dX12_init_122 : decode cX12_init 122 = .ok (.aload_n 0, 1) := by decide +kernel
theorem dX12_init_123 : decode cX12_init 123 = .ok (.sipush 200, 3) := by decide +kernel
theorem dX12_init_126 : decode cX12_init 126 = .ok (.newarray .int, 2) := by decide +kernel
theorem dX12_init_128 : decode cX12_init 128 = .ok (.putfield 54, 3) := by decide +kernel
theorem dX12_init_131 : decode cX12_init 131 = .ok (.aload_n 0, 1) := by decide +kernel
theorem dX12_init_132 : decode cX12_init 132 = .ok (.sipush 200, 3) := by decide +kernel
theorem dX12_init_135 : decode cX12_init 135 = .ok (.newarray .int, 2) := by decide +kernel
theorem dX12_init_137 : decode cX12_init 137 = .ok (.putfield 57, 3) := by decide +kernel
theorem dX12_init_140 : decode cX12_init 140 = .ok (.aload_n 0, 1) := by decide +kernel
theorem dX12_init_141 : decode cX12_init 141 = .ok (.sipush 200, 3) := by decide +kernel
theorem dX12_init_144 : decode cX12_init 144 = .ok (.newarray .int, 2) := by decide +kernel
theorem dX12_init_146 : decode cX12_init 146 = .ok (.putfield 60, 3) := by decide +kernel
theorem dX12_init_149 : decode cX12_init 149 = .ok (.aload_n 0, 1) := by decide +kernel
theorem dX12_init_150 : decode cX12_init 150 = .ok (.sipush 200, 3) := by decide +kernel
theorem dX12_init_153 : decode cX12_init 153 = .ok (.newarray .int, 2) := by decide +kernel
theorem dX12_init_155 : decode cX12_init 155 = .ok (.putfield 63, 3) := by decide +kernel
theorem dX12_init_158 : decode cX12_init 158 = .ok (.aload_n 0, 1) := by decide +kernel
theorem dX12_init_159 : decode cX12_init 159 = .ok (.sipush 200, 3) := by decide +kernel
theorem dX12_init_162 : decode cX12_init 162 = .ok (.newarray .int, 2) := by decide +kernel
theorem dX12_init_164 : decode cX12_init 164 = .ok (.putfield 66, 3) := by decide +kernel
theorem dX12_init_167 : decode cX12_init 167 = .ok (.aload_n 0, 1) := by decide +kernel
theorem dX12_init_168 : decode cX12_init 168 = .ok (.sipush 200, 3) := by decide +kernel
theorem dX12_init_171 : decode cX12_init 171 = .ok (.newarray .int, 2) := by decide +kernel
theorem dX12_init_173 : decode cX12_init 173 = .ok (.putfield 69, 3) := by decide +kernel
theorem dX12_init_176 : decode cX12_init 176 = .ok (.aload_n 0, 1) := by decide +kernel
theorem dX12_init_177 : decode cX12_init 177 = .ok (.sipush 200, 3) := by decide +kernel
theorem dX12_init_180 : decode cX12_init 180 = .ok (.newarray .int, 2) := by decide +kernel
theorem dX12_init_182 : decode cX12_init 182 = .ok (.putfield 72, 3) := by decide +kernel
theorem dX12_init_185 : decode cX12_init 185 = .ok (.aload_n 0, 1) := by decide +kernel
theorem dX12_init_186 : decode cX12_init 186 = .ok (.sipush 200, 3) := by decide +kernel
theorem dX12_init_189 : decode cX12_init 189 = .ok (.newarray .int, 2) := by decide +kernel
theorem dX12_init_191 : decode cX12_init 191 = .ok (.putfield 75, 3) := by decide +kernel
theorem dX12_init_194 : decode cX12_init 194 = .ok (.aload_n 0, 1) := by decide +kernel
theorem dX12_init_195 : decode cX12_init 195 = .ok (.sipush 200, 3) := by decide +kernel
theorem dX12_init_198 : decode cX12_init 198 = .ok (.newarray .boolean, 2) := by decide +kernel
theorem dX12_init_200 : decode cX12_init 200 = .ok (.putfield 78, 3) := by decide +kernel
theorem dX12_init_203 : decode cX12_init 203 = .ok (.aload_n 0, 1) := by decide +kernel
theorem dX12_init_204 : decode cX12_init 204 = .ok (.sipush 20000, 3) := by decide +kernel
theorem dX12_init_207 : decode cX12_init 207 = .ok (.newarray .int, 2) := by decide +kernel
theorem dX12_init_209 : decode cX12_init 209 = .ok (.putfield 82, 3) := by decide +kernel
theorem dX12_init_212 : decode cX12_init 212 = .ok (.aload_n 0, 1) := by decide +kernel
theorem dX12_init_213 : decode cX12_init 213 = .ok (.bipush 7, 2) := by decide +kernel
theorem dX12_init_215 : decode cX12_init 215 = .ok (.newarray .boolean, 2) := by decide +kernel
theorem dX12_init_217 : decode cX12_init 217 = .ok (.putfield 85, 3) := by decide +kernel
theorem dX12_init_220 : decode cX12_init 220 = .ok (.aload_n 0, 1) := by decide +kernel
theorem dX12_init_221 : decode cX12_init 221 = .ok (.bipush 7, 2) := by decide +kernel
theorem dX12_init_223 : decode cX12_init 223 = .ok (.newarray .int, 2) := by decide +kernel
theorem dX12_init_225 : decode cX12_init 225 = .ok (.putfield 88, 3) := by decide +kernel
theorem dX12_init_228 : decode cX12_init 228 = .ok (.aload_n 0, 1) := by decide +kernel
theorem dX12_init_229 : decode cX12_init 229 = .ok (.bipush 7, 2) := by decide +kernel
theorem dX12_init_231 : decode cX12_init 231 = .ok (.newarray .int, 2) := by decide +kernel
theorem dX12_init_233 : decode cX12_init 233 = .ok (.putfield 91, 3) := by decide +kernel
theorem dX12_init_236 : decode cX12_init 236 = .ok (.aload_n 0, 1) := by decide +kernel
theorem dX12_init_237 : decode cX12_init 237 = .ok (.bipush 7, 2) := by decide +kernel
theorem dX12_init_239 : decode cX12_init 239 = .ok (.newarray .int, 2) := by decide +kernel
theorem dX12_init_241 : decode cX12_init 241 = .ok (.putfield 94, 3) := by decide +kernel
theorem dX12_init_244 : decode cX12_init 244 = .ok (.aload_n 0, 1) := by decide +kernel
theorem dX12_init_245 : decode cX12_init 245 = .ok (.bipush 7, 2) := by decide +kernel
theorem dX12_init_247 : decode cX12_init 247 = .ok (.newarray .int, 2) := by decide +kernel
theorem dX12_init_249 : decode cX12_init 249 = .ok (.putfield 97, 3) := by decide +kernel
theorem dX12_init_252 : decode cX12_init 252 = .ok (.aload_n 0, 1) := by decide +kernel
theorem dX12_init_253 : decode cX12_init 253 = .ok (.bipush 7, 2) := by decide +kernel
theorem dX12_init_255 : decode cX12_init 255 = .ok (.newarray .int, 2) := by decide +kernel
theorem dX12_init_257 : decode cX12_init 257 = .ok (.putfield 100, 3) := by decide +kernel
theorem dX12_init_260 : decode cX12_init 260 = .ok (.aload_n 0, 1) := by decide +kernel
theorem dX12_init_261 : decode cX12_init 261 = .ok (.bipush 7, 2) := by decide +kernel
theorem dX12_init_263 : decode cX12_init 263 = .ok (.newarray .int, 2) := by decide +kernel
theorem dX12_init_265 : decode cX12_init 265 = .ok (.putfield 103, 3) := by decide +kernel
theorem dX12_init_268 : decode cX12_init 268 = .ok (.aload_n 0, 1) := by decide +kernel
theorem dX12_init_269 : decode cX12_init 269 = .ok (.bipush 7, 2) := by decide +kernel
theorem dX12_init_271 : decode cX12_init 271 = .ok (.newarray .int, 2) := by decide +kernel
theorem dX12_init_273 : decode cX12_init 273 = .ok (.putfield 106, 3) := by decide +kernel
theorem dX12_init_276 : decode cX12_init 276 = .ok (.aload_n 0, 1) := by decide +kernel
theorem dX12_init_277 : decode cX12_init 277 = .ok (.bipush 7, 2) := by decide +kernel
theorem dX12_init_279 : decode cX12_init 279 = .ok (.newarray .int, 2) := by decide +kernel
theorem dX12_init_281 : decode cX12_init 281 = .ok (.putfield 109, 3) := by decide +kernel
theorem dX12_init_284 : decode cX12_init 284 = .ok (.aload_n 0, 1) := by decide +kernel
theorem dX12_init_285 : decode cX12_init 285 = .ok (.bipush 7, 2) := by decide +kernel
theorem dX12_init_287 : decode cX12_init 287 = .ok (.newarray .int, 2) := by decide +kernel
theorem dX12_init_289 : decode cX12_init 289 = .ok (.putfield 112, 3) := by decide +kernel
theorem dX12_init_292 : decode cX12_init 292 = .ok (.aload_n 0, 1) := by decide +kernel
theorem dX12_init_293 : decode cX12_init 293 = .ok (.sipush 700, 3) := by decide +kernel
theorem dX12_init_296 : decode cX12_init 296 = .ok (.newarray .int, 2) := by decide +kernel
theorem dX12_init_298 : decode cX12_init 298 = .ok (.putfield 115, 3) := by decide +kernel
theorem dX12_init_301 : decode cX12_init 301 = .ok (.aload_n 0, 1) := by decide +kernel
theorem dX12_init_302 : decode cX12_init 302 = .ok (.bipush 7, 2) := by decide +kernel
theorem dX12_init_304 : decode cX12_init 304 = .ok (.newarray .int, 2) := by decide +kernel
theorem dX12_init_306 : decode cX12_init 306 = .ok (.putfield 118, 3) := by decide +kernel
theorem dX12_init_309 : decode cX12_init 309 = .ok (.aload_n 0, 1) := by decide +kernel
theorem dX12_init_310 : decode cX12_init 310 = .ok (.bipush 84, 2) := by decide +kernel
theorem dX12_init_312 : decode cX12_init 312 = .ok (.newarray .int, 2) := by decide +kernel
theorem dX12_init_314 : decode cX12_init 314 = .ok (.putfield 121, 3) := by decide +kernel
theorem dX12_init_317 : decode cX12_init 317 = .ok (.aload_n 0, 1) := by decide +kernel
theorem dX12_init_318 : decode cX12_init 318 = .ok (.bipush 84, 2) := by decide +kernel
theorem dX12_init_320 : decode cX12_init 320 = .ok (.newarray .int, 2) := by decide +kernel
theorem dX12_init_322 : decode cX12_init 322 = .ok (.putfield 124, 3) := by decide +kernel
theorem dX12_init_325 : decode cX12_init 325 = .ok (.aload_n 0, 1) := by decide +kernel
theorem dX12_init_326 : decode cX12_init 326 = .ok (.bipush 7, 2) := by decide +kernel
theorem dX12_init_328 : decode cX12_init 328 = .ok (.newarray .int, 2) := by decide +kernel
theorem dX12_init_330 : decode cX12_init 330 = .ok (.putfield 127, 3) := by decide +kernel
theorem dX12_init_333 : decode cX12_init 333 = .ok (.aload_n 0, 1) := by decide +kernel
theorem dX12_init_334 : decode cX12_init 334 = .ok (.bipush 7, 2) := by decide +kernel
theorem dX12_init_336 : decode cX12_init 336 = .ok (.newarray .int, 2) := by decide +kernel
theorem dX12_init_338 : decode cX12_init 338 = .ok (.putfield 130, 3) := by decide +kernel
theorem dX12_init_341 : decode cX12_init 341 = .ok (.aload_n 0, 1) := by decide +kernel
theorem dX12_init_342 : decode cX12_init 342 = .ok (.bipush 7, 2) := by decide +kernel
theorem dX12_init_344 : decode cX12_init 344 = .ok (.newarray .int, 2) := by decide +kernel
theorem dX12_init_346 : decode cX12_init 346 = .ok (.putfield 133, 3) := by decide +kernel
theorem dX12_init_349 : decode cX12_init 349 = .ok (.aload_n 0, 1) := by decide +kernel
theorem dX12_init_350 : decode cX12_init 350 = .ok (.bipush 7, 2) := by decide +kernel
theorem dX12_init_352 : decode cX12_init 352 = .ok (.newarray .int, 2) := by decide +kernel
theorem dX12_init_354 : decode cX12_init 354 = .ok (.putfield 136, 3) := by decide +kernel
theorem dX12_init_357 : decode cX12_init 357 = .ok (.aload_n 0, 1) := by decide +kernel
theorem dX12_init_358 : decode cX12_init 358 = .ok (.bipush 49, 2) := by decide +kernel
theorem dX12_init_360 : decode cX12_init 360 = .ok (.newarray .int, 2) := by decide +kernel
theorem dX12_init_362 : decode cX12_init 362 = .ok (.putfield 139, 3) := by decide +kernel
theorem dX12_init_365 : decode cX12_init 365 = .ok (.aload_n 0, 1) := by decide +kernel
theorem dX12_init_366 : decode cX12_init 366 = .ok (.bipush 49, 2) := by decide +kernel
theorem dX12_init_368 : decode cX12_init 368 = .ok (.newarray .int, 2) := by decide +kernel
theorem dX12_init_370 : decode cX12_init 370 = .ok (.putfield 142, 3) := by decide +kernel
theorem dX12_init_373 : decode cX12_init 373 = .ok (.aload_n 0, 1) := by decide +kernel
theorem dX12_init_374 : decode cX12_init 374 = .ok (.bipush 49, 2) := by decide +kernel
theorem dX12_init_376 : decode cX12_init 376 = .ok (.newarray .int, 2) := by decide +kernel
theorem dX12_init_378 : decode cX12_init 378 = .ok (.putfield 145, 3) := by decide +kernel
theorem dX12_init_381 : decode cX12_init 381 = .ok (.aload_n 0, 1) := by decide +kernel
theorem dX12_init_382 : decode cX12_init 382 = .ok (.bipush 49, 2) := by decide +kernel
theorem dX12_init_384 : decode cX12_init 384 = .ok (.newarray .int, 2) := by decide +kernel
theorem dX12_init_386 : decode cX12_init 386 = .ok (.putfield 148, 3) := by decide +kernel
theorem dX12_init_389 : decode cX12_init 389 = .ok (.aload_n 0, 1) := by decide +kernel
theorem dX12_init_390 : decode cX12_init 390 = .ok (.sipush 4900, 3) := by decide +kernel
theorem dX12_init_393 : decode cX12_init 393 = .ok (.newarray .int, 2) := by decide +kernel
theorem dX12_init_395 : decode cX12_init 395 = .ok (.putfield 151, 3) := by decide +kernel
theorem dX12_init_398 : decode cX12_init 398 = .ok (.aload_n 0, 1) := by decide +kernel
theorem dX12_init_399 : decode cX12_init 399 = .ok (.bipush 100, 2) := by decide +kernel
theorem dX12_init_401 : decode cX12_init 401 = .ok (.newarray .int, 2) := by decide +kernel
theorem dX12_init_403 : decode cX12_init 403 = .ok (.putfield 154, 3) := by decide +kernel
theorem dX12_init_406 : decode cX12_init 406 = .ok (.aload_n 0, 1) := by decide +kernel
theorem dX12_init_407 : decode cX12_init 407 = .ok (.bipush 100, 2) := by decide +kernel
theorem dX12_init_409 : decode cX12_init 409 = .ok (.newarray .int, 2) := by decide +kernel
theorem dX12_init_411 : decode cX12_init 411 = .ok (.putfield 157, 3) := by decide +kernel
theorem dX12_init_414 : decode cX12_init 414 = .ok (.aload_n 0, 1) := by decide +kernel
theorem dX12_init_415 : decode cX12_init 415 = .ok (.iconst 4, 1) := by decide +kernel
theorem dX12_init_416 : decode cX12_init 416 = .ok (.newarray .int, 2) := by decide +kernel
theorem dX12_init_418 : decode cX12_init 418 = .ok (.putfield 160, 3) := by decide +kernel
theorem dX12_init_421 : decode cX12_init 421 = .ok (.aload_n 0, 1) := by decide +kernel
theorem dX12_init_422 : decode cX12_init 422 = .ok (.iconst 4, 1) := by decide +kernel
theorem dX12_init_423 : decode cX12_init 423 = .ok (.newarray .int, 2) := by decide +kernel
theorem dX12_init_425 : decode cX12_init 425 = .ok (.putfield 163, 3) := by decide +kernel
theorem dX12_init_428 : decode cX12_init 428 = .ok (.aload_n 0, 1) := by decide +kernel
theorem dX12_init_429 : decode cX12_init 429 = .ok (.iconst 4, 1) := by decide +kernel
theorem dX12_init_430 : decode cX12_init 430 = .ok (.newarray .int, 2) := by decide +kernel
theorem dX12_init_432 : decode cX12_init 432 = .ok (.putfield 166, 3) := by decide +kernel
theorem dX12_init_435 : decode cX12_init 435 = .ok (.aload_n 0, 1) := by decide +kernel
theorem dX12_init_436 : decode cX12_init 436 = .ok (.iconst 4, 1) := by decide +kernel
theorem dX12_init_437 : decode cX12_init 437 = .ok (.newarray .int, 2) := by decide +kernel
theorem dX12_init_439 : decode cX12_init 439 = .ok (.putfield 169, 3) := by decide +kernel
theorem dX12_init_442 : decode cX12_init 442 = .ok (.aload_n 0, 1) := by decide +kernel
theorem dX12_init_443 : decode cX12_init 443 = .ok (.iconst 4, 1) := by decide +kernel
theorem dX12_init_444 : decode cX12_init 444 = .ok (.newarray .int, 2) := by decide +kernel
theorem dX12_init_446 : decode cX12_init 446 = .ok (.putfield 172, 3) := by decide +kernel
theorem dX12_init_449 : decode cX12_init 449 = .ok (.aload_n 0, 1) := by decide +kernel
theorem dX12_init_450 : decode cX12_init 450 = .ok (.iconst 4, 1) := by decide +kernel
theorem dX12_init_451 : decode cX12_init 451 = .ok (.newarray .int, 2) := by decide +kernel
theorem dX12_init_453 : decode cX12_init 453 = .ok (.putfield 175, 3) := by decide +kernel
theorem dX12_init_456 : decode cX12_init 456 = .ok (.aload_n 0, 1) := by decide +kernel
theorem dX12_init_457 : decode cX12_init 457 = .ok (.iconst 4, 1) := by decide +kernel
theorem dX12_init_458 : decode cX12_init 458 = .ok (.newarray .int, 2) := by decide +kernel
theorem dX12_init_460 : decode cX12_init 460 = .ok (.putfield 178, 3) := by decide +kernel
theorem dX12_init_463 : decode cX12_init 463 = .ok (.aload_n 0, 1) := by decide +kernel
theorem dX12_init_464 : decode cX12_init 464 = .ok (.iconst 4, 1) := by decide +kernel
theorem dX12_init_465 : decode cX12_init 465 = .ok (.newarray .int, 2) := by decide +kernel
theorem dX12_init_467 : decode cX12_init 467 = .ok (.putfield 181, 3) := by decide +kernel
theorem dX12_init_470 : decode cX12_init 470 = .ok (.aload_n 0, 1) := by decide +kernel
theorem dX12_init_471 : decode cX12_init 471 = .ok (.sipush 256, 3) := by decide +kernel
theorem dX12_init_474 : decode cX12_init 474 = .ok (.newarray .int, 2) := by decide +kernel
theorem dX12_init_476 : decode cX12_init 476 = .ok (.putfield 184, 3) := by decide +kernel
theorem dX12_init_479 : decode cX12_init 479 = .ok (.aload_n 0, 1) := by decide +kernel
theorem dX12_init_480 : decode cX12_init 480 = .ok (.sipush 256, 3) := by decide +kernel
theorem dX12_init_483 : decode cX12_init 483 = .ok (.newarray .int, 2) := by decide +kernel
theorem dX12_init_485 : decode cX12_init 485 = .ok (.putfield 187, 3) := by decide +kernel
theorem dX12_init_488 : decode cX12_init 488 = .ok (.aload_n 0, 1) := by decide +kernel
theorem dX12_init_489 : decode cX12_init 489 = .ok (.sipush 256, 3) := by decide +kernel
theorem dX12_init_492 : decode cX12_init 492 = .ok (.newarray .int, 2) := by decide +kernel
theorem dX12_init_494 : decode cX12_init 494 = .ok (.putfield 190, 3) := by decide +kernel
theorem dX12_init_497 : decode cX12_init 497 = .ok (.aload_n 0, 1) := by decide +kernel
theorem dX12_init_498 : decode cX12_init 498 = .ok (.sipush 256, 3) := by decide +kernel
theorem dX12_init_501 : decode cX12_init 501 = .ok (.newarray .int, 2) := by decide +kernel
theorem dX12_init_503 : decode cX12_init 503 = .ok (.putfield 193, 3) := by decide +kernel
theorem dX12_init_506 : decode cX12_init 506 = .ok (.aload_n 0, 1) := by decide +kernel
theorem dX12_init_507 : decode cX12_init 507 = .ok (.sipush 256, 3) := by decide +kernel
theorem dX12_init_510 : decode cX12_init 510 = .ok (.newarray .int, 2) := by decide +kernel
theorem dX12_init_512 : decode cX12_init 512 = .ok (.putfield 196, 3) := by decide +kernel
theorem dX12_init_515 : decode cX12_init 515 = .ok (.aload_n 0, 1) := by decide +kernel
theorem dX12_init_516 : decode cX12_init 516 = .ok (.sipush 200, 3) := by decide +kernel
theorem dX12_init_519 : decode cX12_init 519 = .ok (.newarray .int, 2) := by decide +kernel
theorem dX12_init_521 : decode cX12_init 521 = .ok (.putfield 199, 3) := by decide +kernel
theorem dX12_init_524 : decode cX12_init 524 = .ok (.aload_n 0, 1) := by decide +kernel
theorem dX12_init_525 : decode cX12_init 525 = .ok (.sipush 200, 3) := by decide +kernel
theorem dX12_init_528 : decode cX12_init 528 = .ok (.newarray .int, 2) := by decide +kernel
theorem dX12_init_530 : decode cX12_init 530 = .ok (.putfield 202, 3) := by decide +kernel
theorem dX12_init_533 : decode cX12_init 533 = .ok (.aload_n 0, 1) := by decide +kernel
theorem dX12_init_534 : decode cX12_init 534 = .ok (.sipush 200, 3) := by decide +kernel
theorem dX12_init_537 : decode cX12_init 537 = .ok (.newarray .int, 2) := by decide +kernel
theorem dX12_init_539 : decode cX12_init 539 = .ok (.putfield 205, 3) := by decide +kernel
theorem dX12_init_542 : decode cX12_init 542 = .ok (.aload_n 0, 1) := by decide +kernel
theorem dX12_init_543 : decode cX12_init 543 = .ok (.sipush 200, 3) := by decide +kernel
theorem dX12_init_546 : decode cX12_init 546 = .ok (.newarray .int, 2) := by decide +kernel
theorem dX12_init_548 : decode cX12_init 548 = .ok (.putfield 208, 3) := by decide +kernel
theorem dX12_init_551 : decode cX12_init 551 = .ok (.aload_n 0, 1) := by decide +kernel
theorem dX12_init_552 : decode cX12_init 552 = .ok (.sipush 200, 3) := by decide +kernel
theorem dX12_init_555 : decode cX12_init 555 = .ok (.newarray .int, 2) := by decide +kernel
theorem dX12_init_557 : decode cX12_init 557 = .ok (.putfield 211, 3) := by decide +kernel
theorem dX12_init_560 : decode cX12_init 560 = .ok (.aload_n 0, 1) := by decide +kernel
theorem dX12_init_561 : decode cX12_init 561 = .ok (.bipush 8, 2) := by decide +kernel
theorem dX12_init_563 : decode cX12_init 563 = .ok (.newarray .int, 2) := by decide +kernel
theorem dX12_init_565 : decode cX12_init 565 = .ok (.putfield 214, 3) := by decide +kernel
theorem dX12_init_568 : decode cX12_init 568 = .ok (.aload_n 0, 1) := by decide +kernel
theorem dX12_init_569 : decode cX12_init 569 = .ok (.iconst 4, 1) := by decide +kernel
theorem dX12_init_570 : decode cX12_init 570 = .ok (.newarray .int, 2) := by decide +kernel
theorem dX12_init_572 : decode cX12_init 572 = .ok (.putfield 217, 3) := by decide +kernel
theorem dX12_init_575 : decode cX12_init 575 = .ok (.aload_n 0, 1) := by decide +kernel
theorem dX12_init_576 : decode cX12_init 576 = .ok (.iconst 4, 1) := by decide +kernel
theorem dX12_init_577 : decode cX12_init 577 = .ok (.newarray .int, 2) := by decide +kernel
theorem dX12_init_579 : decode cX12_init 579 = .ok (.putfield 220, 3) := by decide +kernel
theorem dX12_init_582 : decode cX12_init 582 = .ok (.iload_n 1, 1) := by decide +kernel
theorem dX12_init_583 : decode cX12_init 583 = .ok (.iconst 3, 1) := by decide +kernel
theorem dX12_init_584 : decode cX12_init 584 = .ok (.irem, 1) := by decide +kernel
theorem dX12_init_585 : decode cX12_init 585 = .ok (.istore_n 2, 1) := by decide +kernel
theorem dX12_init_586 : decode cX12_init 586 = .ok (.aload_n 0, 1) := by decide +kernel
theorem dX12_init_587 : decode cX12_init 587 = .ok (.iload_n 2, 1) := by decide +kernel
theorem dX12_init_588 : decode cX12_init 588 = .ok (.ifCond .ge 17, 3) := by decide +kernel
theorem dX12_init_591 : decode cX12_init 591 = .ok (.iload_n 2, 1) := by decide +kernel
theorem dX12_init_592 : decode cX12_init 592 = .ok (.iconst (-1), 1) := by decide +kernel
theorem dX12_init_593 : decode cX12_init 593 = .ok (.if_icmp .ne 8, 3) := by decide +kernel
theorem dX12_init_596 : decode cX12_init 596 = .ok (.bipush 7, 2) := by decide +kernel
theorem dX12_init_598 : decode cX12_init 598 = .ok (.goto 12, 3) := by decide +kernel
theorem dX12_init_601 : decode cX12_init 601 = .ok (.iconst 5, 1) := by decide +kernel
theorem dX12_init_602 : decode cX12_init 602 = .ok (.goto 8, 3) := by decide +kernel
theorem dX12_init_605 : decode cX12_init 605 = .ok (.iconst 3, 1) := by decide +kernel
theorem dX12_init_606 : decode cX12_init 606 = .ok (.iconst 2, 1) := by decide +kernel
theorem dX12_init_607 : decode cX12_init 607 = .ok (.iload_n 2, 1) := by decide +kernel
theorem dX12_init_608 : decode cX12_init 608 = .ok (.imul, 1) := by decide +kernel
theorem dX12_init_609 : decode cX12_init 609 = .ok (.iadd, 1) := by decide +kernel
theorem dX12_init_610 : decode cX12_init 610 = .ok (.putfield 223, 3) := by decide +kernel
theorem dX12_init_613 : decode cX12_init 613 = .ok (.aload_n 0, 1) := by decide +kernel
theorem dX12_init_614 : decode cX12_init 614 = .ok (.aload_n 0, 1) := by decide +kernel
theorem dX12_init_615 : decode cX12_init 615 = .ok (.getfield 223, 3) := by decide +kernel
theorem dX12_init_618 : decode cX12_init 618 = .ok (.iconst 2, 1) := by decide +kernel
theorem dX12_init_619 : decode cX12_init 619 = .ok (.idiv, 1) := by decide +kernel
theorem dX12_init_620 : decode cX12_init 620 = .ok (.putfield 226, 3) := by decide +kernel
theorem dX12_init_623 : decode cX12_init 623 = .ok (.iconst 0, 1) := by decide +kernel
theorem dX12_init_624 : decode cX12_init 624 = .ok (.istore_n 3, 1) := by decide +kernel
theorem dX12_init_625 : decode cX12_init 625 = .ok (.iload_n 3, 1) := by decide +kernel
theorem dX12_init_626 : decode cX12_init 626 = .ok (.bipush 7, 2) := by decide +kernel
theorem dX12_init_628 : decode cX12_init 628 = .ok (.if_icmp .ge 23, 3) := by decide +kernel
theorem dX12_init_631 : decode cX12_init 631 = .ok (.aload_n 0, 1) := by decide +kernel
theorem dX12_init_632 : decode cX12_init 632 = .ok (.getfield 91, 3) := by decide +kernel
theorem dX12_init_635 : decode cX12_init 635 = .ok (.iload_n 3, 1) := by decide +kernel
theorem dX12_init_636 : decode cX12_init 636 = .ok (.iconst 1, 1) := by decide +kernel
theorem dX12_init_637 : decode cX12_init 637 = .ok (.iastore, 1) := by decide +kernel
theorem dX12_init_638 : decode cX12_init 638 = .ok (.aload_n 0, 1) := by decide +kernel
theorem dX12_init_639 : decode cX12_init 639 = .ok (.getfield 100, 3) := by decide +kernel
theorem dX12_init_642 : decode cX12_init 642 = .ok (.iload_n 3, 1) := by decide +kernel
theorem dX12_init_643 : decode cX12_init 643 = .ok (.iconst 1, 1) := by decide +kernel
theorem dX12_init_644 : decode cX12_init 644 = .ok (.iastore, 1) := by decide +kernel
theorem dX12_init_645 : decode cX12_init 645 = .ok (.iinc 3 1, 3) := by decide +kernel
theorem dX12_init_648 : decode cX12_init 648 = .ok (.goto (-23), 3) := by decide +kernel
theorem dX12_init_651 : decode cX12_init 651 = .ok (.iconst 0, 1) := by decide +kernel
theorem dX12_init_652 : decode cX12_init 652 = .ok (.istore_n 3, 1) := by decide +kernel
theorem dX12_init_653 : decode cX12_init 653 = .ok (.iload_n 3, 1) := by decide +kernel
theorem dX12_init_654 : decode cX12_init 654 = .ok (.sipush 200, 3) := by decide +kernel
theorem dX12_init_657 : decode cX12_init 657 = .ok (.if_icmp .ge 16, 3) := by decide +kernel
theorem dX12_init_660 : decode cX12_init 660 = .ok (.aload_n 0, 1) := by decide +kernel
theorem dX12_init_661 : decode cX12_init 661 = .ok (.getfield 36, 3) := by decide +kernel
theorem dX12_init_664 : decode cX12_init 664 = .ok (.iload_n 3, 1) := by decide +kernel
theorem dX12_init_665 : decode cX12_init 665 = .ok (.iload_n 3, 1) := by decide +kernel
theorem dX12_init_666 : decode cX12_init 666 = .ok (.iastore, 1) := by decide +kernel
theorem dX12_init_667 : decode cX12_init 667 = .ok (.iinc 3 1, 3) := by decide +kernel
theorem dX12_init_670 : decode cX12_init 670 = .ok (.goto (-17), 3) := by decide +kernel
theorem dX12_init_673 : decode cX12_init 673 = .ok (.return_, 1) := by decide +kernel
theorem dX12_thrown_0 : decode cX12_thrown 0 = .ok (.aload_n 0, 1) := by decide +kernel
theorem dX12_thrown_1 : decode cX12_thrown 1 = .ok (.getfield 229, 3) := by decide +kernel
theorem dX12_thrown_4 : decode cX12_thrown 4 = .ok (.ireturn, 1) := by decide +kernel
theorem dX12_in_0 : decode cX12_in 0 = .ok (.iload_n 0, 1) := by decide +kernel
theorem dX12_in_1 : decode cX12_in 1 = .ok (.ifCond .lt 12, 3) := by decide +kernel
theorem dX12_in_4 : decode cX12_in 4 = .ok (.iload_n 0, 1) := by decide +kernel
theorem dX12_in_5 : decode cX12_in 5 = .ok (.iload_n 1, 1) := by decide +kernel
theorem dX12_in_6 : decode cX12_in 6 = .ok (.if_icmp .ge 7, 3) := by decide +kernel
theorem dX12_in_9 : decode cX12_in 9 = .ok (.iconst 1, 1) := by decide +kernel
theorem dX12_in_10 : decode cX12_in 10 = .ok (.goto 4, 3) := by decide +kernel
theorem dX12_in_13 : decode cX12_in 13 = .ok (.iconst 0, 1) := by decide +kernel
theorem dX12_in_14 : decode cX12_in 14 = .ok (.ireturn, 1) := by decide +kernel
theorem dX12_ones_0 : decode cX12_ones 0 = .ok (.iconst 0, 1) := by decide +kernel
theorem dX12_ones_1 : decode cX12_ones 1 = .ok (.istore_n 1, 1) := by decide +kernel
theorem dX12_ones_2 : decode cX12_ones 2 = .ok (.iconst 0, 1) := by decide +kernel
theorem dX12_ones_3 : decode cX12_ones 3 = .ok (.istore_n 2, 1) := by decide +kernel
theorem dX12_ones_4 : decode cX12_ones 4 = .ok (.iload_n 2, 1) := by decide +kernel
theorem dX12_ones_5 : decode cX12_ones 5 = .ok (.bipush 7, 2) := by decide +kernel
theorem dX12_ones_7 : decode cX12_ones 7 = .ok (.if_icmp .ge 17, 3) := by decide +kernel
theorem dX12_ones_10 : decode cX12_ones 10 = .ok (.iload_n 1, 1) := by decide +kernel
theorem dX12_ones_11 : decode cX12_ones 11 = .ok (.iload_n 0, 1) := by decide +kernel
theorem dX12_ones_12 : decode cX12_ones 12 = .ok (.iload_n 2, 1) := by decide +kernel
theorem dX12_ones_13 : decode cX12_ones 13 = .ok (.ishr, 1) := by decide +kernel
theorem dX12_ones_14 : decode cX12_ones 14 = .ok (.iconst 1, 1) := by decide +kernel
theorem dX12_ones_15 : decode cX12_ones 15 = .ok (.iand, 1) := by decide +kernel
theorem dX12_ones_16 : decode cX12_ones 16 = .ok (.iadd, 1) := by decide +kernel
theorem dX12_ones_17 : decode cX12_ones 17 = .ok (.istore_n 1, 1) := by decide +kernel
theorem dX12_ones_18 : decode cX12_ones 18 = .ok (.iinc 2 1, 3) := by decide +kernel
theorem dX12_ones_21 : decode cX12_ones 21 = .ok (.goto (-17), 3) := by decide +kernel
theorem dX12_ones_24 : decode cX12_ones 24 = .ok (.iload_n 1, 1) := by decide +kernel
theorem dX12_ones_25 : decode cX12_ones 25 = .ok (.ireturn, 1) := by decide +kernel
theorem dX12_send_0 : decode cX12_send 0 = .ok (.aload_n 0, 1) := by decide +kernel
theorem dX12_send_1 : decode cX12_send 1 = .ok (.dup, 1) := by decide +kernel
theorem dX12_send_2 : decode cX12_send 2 = .ok (.getfield 232, 3) := by decide +kernel
theorem dX12_send_5 : decode cX12_send 5 = .ok (.iconst 1, 1) := by decide +kernel
theorem dX12_send_6 : decode cX12_send 6 = .ok (.iadd, 1) := by decide +kernel
theorem dX12_send_7 : decode cX12_send 7 = .ok (.putfield 232, 3) := by decide +kernel
theorem dX12_send_10 : decode cX12_send 10 = .ok (.aload_n 0, 1) := by decide +kernel
theorem dX12_send_11 : decode cX12_send 11 = .ok (.getfield 235, 3) := by decide +kernel
theorem dX12_send_14 : decode cX12_send 14 = .ok (.sipush 200, 3) := by decide +kernel
theorem dX12_send_17 : decode cX12_send 17 = .ok (.if_icmp .ne 15, 3) := by decide +kernel
theorem dX12_send_20 : decode cX12_send 20 = .ok (.aload_n 0, 1) := by decide +kernel
theorem dX12_send_21 : decode cX12_send 21 = .ok (.dup, 1) := by decide +kernel
theorem dX12_send_22 : decode cX12_send 22 = .ok (.getfield 238, 3) := by decide +kernel
theorem dX12_send_25 : decode cX12_send 25 = .ok (.iconst 1, 1) := by decide +kernel
theorem dX12_send_26 : decode cX12_send 26 = .ok (.iadd, 1) := by decide +kernel
theorem dX12_send_27 : decode cX12_send 27 = .ok (.putfield 238, 3) := by decide +kernel
theorem dX12_send_30 : decode cX12_send 30 = .ok (.iconst (-1), 1) := by decide +kernel
theorem dX12_send_31 : decode cX12_send 31 = .ok (.ireturn, 1) := by decide +kernel
theorem dX12_send_32 : decode cX12_send 32 = .ok (.aload_n 0, 1) := by decide +kernel
theorem dX12_send_33 : decode cX12_send 33 = .ok (.getfield 36, 3) := by decide +kernel
theorem dX12_send_36 : decode cX12_send 36 = .ok (.sipush 199, 3) := by decide +kernel
theorem dX12_send_39 : decode cX12_send 39 = .ok (.aload_n 0, 1) := by decide +kernel
theorem dX12_send_40 : decode cX12_send 40 = .ok (.getfield 235, 3) := by decide +kernel
theorem dX12_send_43 : decode cX12_send 43 = .ok (.isub, 1) := by decide +kernel
theorem dX12_send_44 : decode cX12_send 44 = .ok (.iaload, 1) := by decide +kernel
theorem dX12_send_45 : decode cX12_send 45 = .ok (.istore 8, 2) := by decide +kernel
theorem dX12_send_47 : decode cX12_send 47 = .ok (.aload_n 0, 1) := by decide +kernel
theorem dX12_send_48 : decode cX12_send 48 = .ok (.getfield 33, 3) := by decide +kernel
theorem dX12_send_51 : decode cX12_send 51 = .ok (.aload_n 0, 1) := by decide +kernel
theorem dX12_send_52 : decode cX12_send 52 = .ok (.getfield 235, 3) := by decide +kernel
theorem dX12_send_55 : decode cX12_send 55 = .ok (.iload 8, 2) := by decide +kernel
theorem dX12_send_57 : decode cX12_send 57 = .ok (.iastore, 1) := by decide +kernel
theorem dX12_send_58 : decode cX12_send 58 = .ok (.aload_n 0, 1) := by decide +kernel
theorem dX12_send_59 : decode cX12_send 59 = .ok (.dup, 1) := by decide +kernel
theorem dX12_send_60 : decode cX12_send 60 = .ok (.getfield 235, 3) := by decide +kernel
theorem dX12_send_63 : decode cX12_send 63 = .ok (.iconst 1, 1) := by decide +kernel
theorem dX12_send_64 : decode cX12_send 64 = .ok (.iadd, 1) := by decide +kernel
theorem dX12_send_65 : decode cX12_send 65 = .ok (.putfield 235, 3) := by decide +kernel
theorem dX12_send_68 : decode cX12_send 68 = .ok (.aload_n 0, 1) := by decide +kernel
theorem dX12_send_69 : decode cX12_send 69 = .ok (.getfield 39, 3) := by decide +kernel
theorem dX12_send_72 : decode cX12_send 72 = .ok (.iload 8, 2) := by decide +kernel
theorem dX12_send_74 : decode cX12_send 74 = .ok (.aload_n 0, 1) := by decide +kernel
theorem dX12_send_75 : decode cX12_send 75 = .ok (.getfield 232, 3) := by decide +kernel
theorem dX12_send_78 : decode cX12_send 78 = .ok (.iconst 1, 1) := by decide +kernel
theorem dX12_send_79 : decode cX12_send 79 = .ok (.isub, 1) := by decide +kernel
theorem dX12_send_80 : decode cX12_send 80 = .ok (.iastore, 1) := by decide +kernel
theorem dX12_send_81 : decode cX12_send 81 = .ok (.aload_n 0, 1) := by decide +kernel
theorem dX12_send_82 : decode cX12_send 82 = .ok (.getfield 42, 3) := by decide +kernel
theorem dX12_send_85 : decode cX12_send 85 = .ok (.iload 8, 2) := by decide +kernel
theorem dX12_send_87 : decode cX12_send 87 = .ok (.iload_n 1, 1) := by decide +kernel
theorem dX12_send_88 : decode cX12_send 88 = .ok (.iastore, 1) := by decide +kernel
theorem dX12_send_89 : decode cX12_send 89 = .ok (.aload_n 0, 1) := by decide +kernel
theorem dX12_send_90 : decode cX12_send 90 = .ok (.getfield 45, 3) := by decide +kernel
theorem dX12_send_93 : decode cX12_send 93 = .ok (.iload 8, 2) := by decide +kernel
theorem dX12_send_95 : decode cX12_send 95 = .ok (.iload_n 2, 1) := by decide +kernel
theorem dX12_send_96 : decode cX12_send 96 = .ok (.iastore, 1) := by decide +kernel
theorem dX12_send_97 : decode cX12_send 97 = .ok (.aload_n 0, 1) := by decide +kernel
theorem dX12_send_98 : decode cX12_send 98 = .ok (.getfield 48, 3) := by decide +kernel
theorem dX12_send_101 : decode cX12_send 101 = .ok (.iload 8, 2) := by decide +kernel
theorem dX12_send_103 : decode cX12_send 103 = .ok (.iload_n 3, 1) := by decide +kernel
theorem dX12_send_104 : decode cX12_send 104 = .ok (.iastore, 1) := by decide +kernel
theorem dX12_send_105 : decode cX12_send 105 = .ok (.aload_n 0, 1) := by decide +kernel
theorem dX12_send_106 : decode cX12_send 106 = .ok (.getfield 51, 3) := by decide +kernel
theorem dX12_send_109 : decode cX12_send 109 = .ok (.iload 8, 2) := by decide +kernel
theorem dX12_send_111 : decode cX12_send 111 = .ok (.iload 4, 2) := by decide +kernel
theorem dX12_send_113 : decode cX12_send 113 = .ok (.iastore, 1) := by decide +kernel
theorem dX12_send_114 : decode cX12_send 114 = .ok (.aload_n 0, 1) := by decide +kernel
theorem dX12_send_115 : decode cX12_send 115 = .ok (.getfield 54, 3) := by decide +kernel
theorem dX12_send_118 : decode cX12_send 118 = .ok (.iload 8, 2) := by decide +kernel
theorem dX12_send_120 : decode cX12_send 120 = .ok (.iload 5, 2) := by decide +kernel
theorem dX12_send_122 : decode cX12_send 122 = .ok (.iastore, 1) := by decide +kernel
theorem dX12_send_123 : decode cX12_send 123 = .ok (.aload_n 0, 1) := by decide +kernel
theorem dX12_send_124 : decode cX12_send 124 = .ok (.getfield 57, 3) := by decide +kernel
theorem dX12_send_127 : decode cX12_send 127 = .ok (.iload 8, 2) := by decide +kernel
theorem dX12_send_129 : decode cX12_send 129 = .ok (.iload 6, 2) := by decide +kernel
theorem dX12_send_131 : decode cX12_send 131 = .ok (.iastore, 1) := by decide +kernel
theorem dX12_send_132 : decode cX12_send 132 = .ok (.aload_n 0, 1) := by decide +kernel
theorem dX12_send_133 : decode cX12_send 133 = .ok (.getfield 60, 3) := by decide +kernel
theorem dX12_send_136 : decode cX12_send 136 = .ok (.iload 8, 2) := by decide +kernel
theorem dX12_send_138 : decode cX12_send 138 = .ok (.iload 7, 2) := by decide +kernel
theorem dX12_send_140 : decode cX12_send 140 = .ok (.iastore, 1) := by decide +kernel
theorem dX12_send_141 : decode cX12_send 141 = .ok (.aload_n 0, 1) := by decide +kernel
theorem dX12_send_142 : decode cX12_send 142 = .ok (.getfield 78, 3) := by decide +kernel
theorem dX12_send_145 : decode cX12_send 145 = .ok (.iload 8, 2) := by decide +kernel
theorem dX12_send_147 : decode cX12_send 147 = .ok (.iconst 0, 1) := by decide +kernel
theorem dX12_send_148 : decode cX12_send 148 = .ok (.bastore, 1) := by decide +kernel
theorem dX12_send_149 : decode cX12_send 149 = .ok (.aload_n 0, 1) := by decide +kernel
theorem dX12_send_150 : decode cX12_send 150 = .ok (.getfield 75, 3) := by decide +kernel
theorem dX12_send_153 : decode cX12_send 153 = .ok (.iload 8, 2) := by decide +kernel
theorem dX12_send_155 : decode cX12_send 155 = .ok (.iconst 0, 1) := by decide +kernel
theorem dX12_send_156 : decode cX12_send 156 = .ok (.iastore, 1) := by decide +kernel
theorem dX12_send_157 : decode cX12_send 157 = .ok (.iload 8, 2) := by decide +kernel
theorem dX12_send_159 : decode cX12_send 159 = .ok (.ireturn, 1) := by decide +kernel
theorem dX12_taken_0 : decode cX12_taken 0 = .ok (.aload_n 0, 1) := by decide +kernel
theorem dX12_taken_1 : decode cX12_taken 1 = .ok (.getfield 33, 3) := by decide +kernel
theorem dX12_taken_4 : decode cX12_taken 4 = .ok (.iload_n 1, 1) := by decide +kernel
theorem dX12_taken_5 : decode cX12_taken 5 = .ok (.iaload, 1) := by decide +kernel
theorem dX12_taken_6 : decode cX12_taken 6 = .ok (.istore_n 2, 1) := by decide +kernel
theorem dX12_taken_7 : decode cX12_taken 7 = .ok (.aload_n 0, 1) := by decide +kernel
theorem dX12_taken_8 : decode cX12_taken 8 = .ok (.dup, 1) := by decide +kernel
theorem dX12_taken_9 : decode cX12_taken 9 = .ok (.getfield 235, 3) := by decide +kernel
theorem dX12_taken_12 : decode cX12_taken 12 = .ok (.iconst 1, 1) := by decide +kernel
theorem dX12_taken_13 : decode cX12_taken 13 = .ok (.isub, 1) := by decide +kernel
theorem dX12_taken_14 : decode cX12_taken 14 = .ok (.putfield 235, 3) := by decide +kernel
theorem dX12_taken_17 : decode cX12_taken 17 = .ok (.iload_n 1, 1) := by decide +kernel
theorem dX12_taken_18 : decode cX12_taken 18 = .ok (.istore_n 3, 1) := by decide +kernel
theorem dX12_taken_19 : decode cX12_taken 19 = .ok (.iload_n 3, 1) := by decide +kernel
theorem dX12_taken_20 : decode cX12_taken 20 = .ok (.aload_n 0, 1) := by decide +kernel
theorem dX12_taken_21 : decode cX12_taken 21 = .ok (.getfield 235, 3) := by decide +kernel
theorem dX12_taken_24 : decode cX12_taken 24 = .ok (.if_icmp .ge 23, 3) := by decide +kernel
theorem dX12_taken_27 : decode cX12_taken 27 = .ok (.aload_n 0, 1) := by decide +kernel
theorem dX12_taken_28 : decode cX12_taken 28 = .ok (.getfield 33, 3) := by decide +kernel
theorem dX12_taken_31 : decode cX12_taken 31 = .ok (.iload_n 3, 1) := by decide +kernel
theorem dX12_taken_32 : decode cX12_taken 32 = .ok (.aload_n 0, 1) := by decide +kernel
theorem dX12_taken_33 : decode cX12_taken 33 = .ok (.getfield 33, 3) := by decide +kernel
theorem dX12_taken_36 : decode cX12_taken 36 = .ok (.iload_n 3, 1) := by decide +kernel
theorem dX12_taken_37 : decode cX12_taken 37 = .ok (.iconst 1, 1) := by decide +kernel
theorem dX12_taken_38 : decode cX12_taken 38 = .ok (.iadd, 1) := by decide +kernel
theorem dX12_taken_39 : decode cX12_taken 39 = .ok (.iaload, 1) := by decide +kernel
theorem dX12_taken_40 : decode cX12_taken 40 = .ok (.iastore, 1) := by decide +kernel
theorem dX12_taken_41 : decode cX12_taken 41 = .ok (.iinc 3 1, 3) := by decide +kernel
theorem dX12_taken_44 : decode cX12_taken 44 = .ok (.goto (-25), 3) := by decide +kernel
theorem dX12_taken_47 : decode cX12_taken 47 = .ok (.aload_n 0, 1) := by decide +kernel
theorem dX12_taken_48 : decode cX12_taken 48 = .ok (.getfield 36, 3) := by decide +kernel
theorem dX12_taken_51 : decode cX12_taken 51 = .ok (.sipush 199, 3) := by decide +kernel
theorem dX12_taken_54 : decode cX12_taken 54 = .ok (.aload_n 0, 1) := by decide +kernel
theorem dX12_taken_55 : decode cX12_taken 55 = .ok (.getfield 235, 3) := by decide +kernel
theorem dX12_taken_58 : decode cX12_taken 58 = .ok (.isub, 1) := by decide +kernel
theorem dX12_taken_59 : decode cX12_taken 59 = .ok (.iload_n 2, 1) := by decide +kernel
theorem dX12_taken_60 : decode cX12_taken 60 = .ok (.iastore, 1) := by decide +kernel
theorem dX12_taken_61 : decode cX12_taken 61 = .ok (.iload_n 2, 1) := by decide +kernel
theorem dX12_taken_62 : decode cX12_taken 62 = .ok (.ireturn, 1) := by decide +kernel
theorem dX12_find_0 : decode cX12_find 0 = .ok (.iconst 0, 1) := by decide +kernel
theorem dX12_find_1 : decode cX12_find 1 = .ok (.istore_n 2, 1) := by decide +kernel
theorem dX12_find_2 : decode cX12_find 2 = .ok (.iload_n 2, 1) := by decide +kernel
theorem dX12_find_3 : decode cX12_find 3 = .ok (.aload_n 0, 1) := by decide +kernel
theorem dX12_find_4 : decode cX12_find 4 = .ok (.getfield 235, 3) := by decide +kernel
theorem dX12_find_7 : decode cX12_find 7 = .ok (.if_icmp .ge 26, 3) := by decide +kernel
theorem dX12_find_10 : decode cX12_find 10 = .ok (.aload_n 0, 1) := by decide +kernel
theorem dX12_find_11 : decode cX12_find 11 = .ok (.getfield 39, 3) := by decide +kernel
theorem dX12_find_14 : decode cX12_find 14 = .ok (.aload_n 0, 1) := by decide +kernel
theorem dX12_find_15 : decode cX12_find 15 = .ok (.getfield 33, 3) := by decide +kernel
theorem dX12_find_18 : decode cX12_find 18 = .ok (.iload_n 2, 1) := by decide +kernel
theorem dX12_find_19 : decode cX12_find 19 = .ok (.iaload, 1) := by decide +kernel
theorem dX12_find_20 : decode cX12_find 20 = .ok (.iaload, 1) := by decide +kernel
theorem dX12_find_21 : decode cX12_find 21 = .ok (.iload_n 1, 1) := by decide +kernel
theorem dX12_find_22 : decode cX12_find 22 = .ok (.if_icmp .ne 5, 3) := by decide +kernel
theorem dX12_find_25 : decode cX12_find 25 = .ok (.iload_n 2, 1) := by decide +kernel
theorem dX12_find_26 : decode cX12_find 26 = .ok (.ireturn, 1) := by decide +kernel
theorem dX12_find_27 : decode cX12_find 27 = .ok (.iinc 2 1, 3) := by decide +kernel
theorem dX12_find_30 : decode cX12_find 30 = .ok (.goto (-28), 3) := by decide +kernel
theorem dX12_find_33 : decode cX12_find 33 = .ok (.iconst (-1), 1) := by decide +kernel
theorem dX12_find_34 : decode cX12_find 34 = .ok (.ireturn, 1) := by decide +kernel
theorem dX12_all_0 : decode cX12_all 0 = .ok (.iconst 0, 1) := by decide +kernel
theorem dX12_all_1 : decode cX12_all 1 = .ok (.istore 4, 2) := by decide +kernel
theorem dX12_all_3 : decode cX12_all 3 = .ok (.iload 4, 2) := by decide +kernel
theorem dX12_all_5 : decode cX12_all 5 = .ok (.aload_n 0, 1) := by decide +kernel
theorem dX12_all_6 : decode cX12_all 6 = .ok (.getfield 223, 3) := by decide +kernel
theorem dX12_all_9 : decode cX12_all 9 = .ok (.if_icmp .ge 38, 3) := by decide +kernel
theorem dX12_all_12 : decode cX12_all 12 = .ok (.iload 4, 2) := by decide +kernel
theorem dX12_all_14 : decode cX12_all 14 = .ok (.iload_n 2, 1) := by decide +kernel
theorem dX12_all_15 : decode cX12_all 15 = .ok (.if_icmp .eq 26, 3) := by decide +kernel
theorem dX12_all_18 : decode cX12_all 18 = .ok (.aload_n 0, 1) := by decide +kernel
theorem dX12_all_19 : decode cX12_all 19 = .ok (.iload_n 1, 1) := by decide +kernel
theorem dX12_all_20 : decode cX12_all 20 = .ok (.iload_n 2, 1) := by decide +kernel
theorem dX12_all_21 : decode cX12_all 21 = .ok (.iload 4, 2) := by decide +kernel
theorem dX12_all_23 : decode cX12_all 23 = .ok (.aload_n 0, 1) := by decide +kernel
theorem dX12_all_24 : decode cX12_all 24 = .ok (.getfield 88, 3) := by decide +kernel
theorem dX12_all_27 : decode cX12_all 27 = .ok (.iload_n 2, 1) := by decide +kernel
theorem dX12_all_28 : decode cX12_all 28 = .ok (.iaload, 1) := by decide +kernel
theorem dX12_all_29 : decode cX12_all 29 = .ok (.aload_n 0, 1) := by decide +kernel
theorem dX12_all_30 : decode cX12_all 30 = .ok (.getfield 91, 3) := by decide +kernel
theorem dX12_all_33 : decode cX12_all 33 = .ok (.iload_n 2, 1) := by decide +kernel
theorem dX12_all_34 : decode cX12_all 34 = .ok (.iaload, 1) := by decide +kernel
theorem dX12_all_35 : decode cX12_all 35 = .ok (.iload_n 3, 1) := by decide +kernel
theorem dX12_all_36 : decode cX12_all 36 = .ok (.iconst 0, 1) := by decide +kernel
theorem dX12_all_37 : decode cX12_all 37 = .ok (.invokevirtual 241, 3) := by decide +kernel
theorem dX12_all_40 : decode cX12_all 40 = .ok (.pop, 1) := by decide +kernel
theorem dX12_all_41 : decode cX12_all 41 = .ok (.iinc 4 1, 3) := by decide +kernel
theorem dX12_all_44 : decode cX12_all 44 = .ok (.goto (-41), 3) := by decide +kernel
theorem dX12_all_47 : decode cX12_all 47 = .ok (.return_, 1) := by decide +kernel
theorem dX12_load_0 : decode cX12_load 0 = .ok (.iload_n 1, 1) := by decide +kernel
theorem dX12_load_1 : decode cX12_load 1 = .ok (.iconst (-1), 1) := by decide +kernel
theorem dX12_load_2 : decode cX12_load 2 = .ok (.if_icmp .ne 4, 3) := by decide +kernel
theorem dX12_load_5 : decode cX12_load 5 = .ok (.return_, 1) := by decide +kernel
theorem dX12_load_6 : decode cX12_load 6 = .ok (.aload_n 0, 1) := by decide +kernel
theorem dX12_load_7 : decode cX12_load 7 = .ok (.getfield 72, 3) := by decide +kernel
theorem dX12_load_10 : decode cX12_load 10 = .ok (.iload_n 1, 1) := by decide +kernel
theorem dX12_load_11 : decode cX12_load 11 = .ok (.aload_n 0, 1) := by decide +kernel
theorem dX12_load_12 : decode cX12_load 12 = .ok (.getfield 106, 3) := by decide +kernel
theorem dX12_load_15 : decode cX12_load 15 = .ok (.iload_n 2, 1) := by decide +kernel
theorem dX12_load_16 : decode cX12_load 16 = .ok (.iaload, 1) := by decide +kernel
theorem dX12_load_17 : decode cX12_load 17 = .ok (.iastore, 1) := by decide +kernel
theorem dX12_load_18 : decode cX12_load 18 = .ok (.aload_n 0, 1) := by decide +kernel
theorem dX12_load_19 : decode cX12_load 19 = .ok (.getfield 66, 3) := by decide +kernel
theorem dX12_load_22 : decode cX12_load 22 = .ok (.iload_n 1, 1) := by decide +kernel
theorem dX12_load_23 : decode cX12_load 23 = .ok (.aload_n 0, 1) := by decide +kernel
theorem dX12_load_24 : decode cX12_load 24 = .ok (.getfield 97, 3) := by decide +kernel
theorem dX12_load_27 : decode cX12_load 27 = .ok (.iload_n 2, 1) := by decide +kernel
theorem dX12_load_28 : decode cX12_load 28 = .ok (.iaload, 1) := by decide +kernel
theorem dX12_load_29 : decode cX12_load 29 = .ok (.iastore, 1) := by decide +kernel
theorem dX12_load_30 : decode cX12_load 30 = .ok (.aload_n 0, 1) := by decide +kernel
theorem dX12_load_31 : decode cX12_load 31 = .ok (.getfield 69, 3) := by decide +kernel
theorem dX12_load_34 : decode cX12_load 34 = .ok (.iload_n 1, 1) := by decide +kernel
theorem dX12_load_35 : decode cX12_load 35 = .ok (.aload_n 0, 1) := by decide +kernel
theorem dX12_load_36 : decode cX12_load 36 = .ok (.getfield 100, 3) := by decide +kernel
theorem dX12_load_39 : decode cX12_load 39 = .ok (.iload_n 2, 1) := by decide +kernel
theorem dX12_load_40 : decode cX12_load 40 = .ok (.iaload, 1) := by decide +kernel
theorem dX12_load_41 : decode cX12_load 41 = .ok (.iastore, 1) := by decide +kernel
theorem dX12_load_42 : decode cX12_load 42 = .ok (.aload_n 0, 1) := by decide +kernel
theorem dX12_load_43 : decode cX12_load 43 = .ok (.getfield 75, 3) := by decide +kernel
theorem dX12_load_46 : decode cX12_load 46 = .ok (.iload_n 1, 1) := by decide +kernel
theorem dX12_load_47 : decode cX12_load 47 = .ok (.iload_n 3, 1) := by decide +kernel
theorem dX12_load_48 : decode cX12_load 48 = .ok (.iastore, 1) := by decide +kernel
theorem dX12_load_49 : decode cX12_load 49 = .ok (.iconst 0, 1) := by decide +kernel
theorem dX12_load_50 : decode cX12_load 50 = .ok (.istore 4, 2) := by decide +kernel
theorem dX12_load_52 : decode cX12_load 52 = .ok (.iload 4, 2) := by decide +kernel
theorem dX12_load_54 : decode cX12_load 54 = .ok (.iload_n 3, 1) := by decide +kernel
theorem dX12_load_55 : decode cX12_load 55 = .ok (.if_icmp .ge 33, 3) := by decide +kernel
theorem dX12_load_58 : decode cX12_load 58 = .ok (.aload_n 0, 1) := by decide +kernel
theorem dX12_load_59 : decode cX12_load 59 = .ok (.getfield 82, 3) := by decide +kernel
theorem dX12_load_62 : decode cX12_load 62 = .ok (.bipush 100, 2) := by decide +kernel
theorem dX12_load_64 : decode cX12_load 64 = .ok (.iload_n 1, 1) := by decide +kernel
theorem dX12_load_65 : decode cX12_load 65 = .ok (.imul, 1) := by decide +kernel
theorem dX12_load_66 : decode cX12_load 66 = .ok (.iload 4, 2) := by decide +kernel
theorem dX12_load_68 : decode cX12_load 68 = .ok (.iadd, 1) := by decide +kernel
theorem dX12_load_69 : decode cX12_load 69 = .ok (.aload_n 0, 1) := by decide +kernel
theorem dX12_load_70 : decode cX12_load 70 = .ok (.getfield 115, 3) := by decide +kernel
theorem dX12_load_73 : decode cX12_load 73 = .ok (.bipush 100, 2) := by decide +kernel
theorem dX12_load_75 : decode cX12_load 75 = .ok (.iload_n 2, 1) := by decide +kernel
theorem dX12_load_76 : decode cX12_load 76 = .ok (.imul, 1) := by decide +kernel
theorem dX12_load_77 : decode cX12_load 77 = .ok (.iload 4, 2) := by decide +kernel
theorem dX12_load_79 : decode cX12_load 79 = .ok (.iadd, 1) := by decide +kernel
theorem dX12_load_80 : decode cX12_load 80 = .ok (.iaload, 1) := by decide +kernel
theorem dX12_load_81 : decode cX12_load 81 = .ok (.iastore, 1) := by decide +kernel
theorem dX12_load_82 : decode cX12_load 82 = .ok (.iinc 4 1, 3) := by decide +kernel
theorem dX12_load_85 : decode cX12_load 85 = .ok (.goto (-33), 3) := by decide +kernel
theorem dX12_load_88 : decode cX12_load 88 = .ok (.return_, 1) := by decide +kernel
theorem dX12_stamp_0 : decode cX12_stamp 0 = .ok (.aload_n 0, 1) := by decide +kernel
theorem dX12_stamp_1 : decode cX12_stamp 1 = .ok (.getfield 25, 3) := by decide +kernel
theorem dX12_stamp_4 : decode cX12_stamp 4 = .ok (.ifCond .ne 4, 3) := by decide +kernel
theorem dX12_stamp_7 : decode cX12_stamp 7 = .ok (.return_, 1) := by decide +kernel
theorem dX12_stamp_8 : decode cX12_stamp 8 = .ok (.aload_n 0, 1) := by decide +kernel
theorem dX12_stamp_9 : decode cX12_stamp 9 = .ok (.dup, 1) := by decide +kernel
theorem dX12_stamp_10 : decode cX12_stamp 10 = .ok (.getfield 245, 3) := by decide +kernel
theorem dX12_stamp_13 : decode cX12_stamp 13 = .ok (.iconst 1, 1) := by decide +kernel
theorem dX12_stamp_14 : decode cX12_stamp 14 = .ok (.iadd, 1) := by decide +kernel
theorem dX12_stamp_15 : decode cX12_stamp 15 = .ok (.putfield 245, 3) := by decide +kernel
theorem dX12_stamp_18 : decode cX12_stamp 18 = .ok (.iconst 0, 1) := by decide +kernel
theorem dX12_stamp_19 : decode cX12_stamp 19 = .ok (.istore_n 2, 1) := by decide +kernel
theorem dX12_stamp_20 : decode cX12_stamp 20 = .ok (.iload_n 2, 1) := by decide +kernel
theorem dX12_stamp_21 : decode cX12_stamp 21 = .ok (.aload_n 0, 1) := by decide +kernel
theorem dX12_stamp_22 : decode cX12_stamp 22 = .ok (.getfield 223, 3) := by decide +kernel
theorem dX12_stamp_25 : decode cX12_stamp 25 = .ok (.if_icmp .ge 27, 3) := by decide +kernel
theorem dX12_stamp_28 : decode cX12_stamp 28 = .ok (.aload_n 0, 1) := by decide +kernel
theorem dX12_stamp_29 : decode cX12_stamp 29 = .ok (.iconst 0, 1) := by decide +kernel
theorem dX12_stamp_30 : decode cX12_stamp 30 = .ok (.iconst (-1), 1) := by decide +kernel
theorem dX12_stamp_31 : decode cX12_stamp 31 = .ok (.iload_n 2, 1) := by decide +kernel
theorem dX12_stamp_32 : decode cX12_stamp 32 = .ok (.iconst 0, 1) := by decide +kernel
theorem dX12_stamp_33 : decode cX12_stamp 33 = .ok (.aload_n 0, 1) := by decide +kernel
theorem dX12_stamp_34 : decode cX12_stamp 34 = .ok (.getfield 29, 3) := by decide +kernel
theorem dX12_stamp_37 : decode cX12_stamp 37 = .ok (.aload_n 0, 1) := by decide +kernel
theorem dX12_stamp_38 : decode cX12_stamp 38 = .ok (.getfield 245, 3) := by decide +kernel
theorem dX12_stamp_41 : decode cX12_stamp 41 = .ok (.iload_n 1, 1) := by decide +kernel
theorem dX12_stamp_42 : decode cX12_stamp 42 = .ok (.invokevirtual 241, 3) := by decide +kernel
theorem dX12_stamp_45 : decode cX12_stamp 45 = .ok (.pop, 1) := by decide +kernel
theorem dX12_stamp_46 : decode cX12_stamp 46 = .ok (.iinc 2 1, 3) := by decide +kernel
theorem dX12_stamp_49 : decode cX12_stamp 49 = .ok (.goto (-29), 3) := by decide +kernel
theorem dX12_stamp_52 : decode cX12_stamp 52 = .ok (.return_, 1) := by decide +kernel
theorem dX12_execute_0 : decode cX12_execute 0 = .ok (.iconst 0, 1) := by decide +kernel
theorem dX12_execute_1 : decode cX12_execute 1 = .ok (.istore_n 3, 1) := by decide +kernel
theorem dX12_execute_2 : decode cX12_execute 2 = .ok (.iload_n 3, 1) := by decide +kernel
theorem dX12_execute_3 : decode cX12_execute 3 = .ok (.bipush 8, 2) := by decide +kernel
theorem dX12_execute_5 : decode cX12_execute 5 = .ok (.if_icmp .ge 16, 3) := by decide +kernel
theorem dX12_execute_8 : decode cX12_execute 8 = .ok (.aload_n 0, 1) := by decide +kernel
theorem dX12_execute_9 : decode cX12_execute 9 = .ok (.getfield 214, 3) := by decide +kernel
theorem dX12_execute_12 : decode cX12_execute 12 = .ok (.iload_n 3, 1) := by decide +kernel
theorem dX12_execute_13 : decode cX12_execute 13 = .ok (.iconst 0, 1) := by decide +kernel
theorem dX12_execute_14 : decode cX12_execute 14 = .ok (.iastore, 1) := by decide +kernel
theorem dX12_execute_15 : decode cX12_execute 15 = .ok (.iinc 3 1, 3) := by decide +kernel
theorem dX12_execute_18 : decode cX12_execute 18 = .ok (.goto (-16), 3) := by decide +kernel
theorem dX12_execute_21 : decode cX12_execute 21 = .ok (.iconst 0, 1) := by decide +kernel
theorem dX12_execute_22 : decode cX12_execute 22 = .ok (.istore_n 3, 1) := by decide +kernel
theorem dX12_execute_23 : decode cX12_execute 23 = .ok (.iload_n 3, 1) := by decide +kernel
theorem dX12_execute_24 : decode cX12_execute 24 = .ok (.iconst 4, 1) := by decide +kernel
theorem dX12_execute_25 : decode cX12_execute 25 = .ok (.if_icmp .ge 23, 3) := by decide +kernel
theorem dX12_execute_28 : decode cX12_execute 28 = .ok (.aload_n 0, 1) := by decide +kernel
theorem dX12_execute_29 : decode cX12_execute 29 = .ok (.getfield 217, 3) := by decide +kernel
theorem dX12_execute_32 : decode cX12_execute 32 = .ok (.iload_n 3, 1) := by decide +kernel
theorem dX12_execute_33 : decode cX12_execute 33 = .ok (.iconst 0, 1) := by decide +kernel
theorem dX12_execute_34 : decode cX12_execute 34 = .ok (.iastore, 1) := by decide +kernel
theorem dX12_execute_35 : decode cX12_execute 35 = .ok (.aload_n 0, 1) := by decide +kernel
theorem dX12_execute_36 : decode cX12_execute 36 = .ok (.getfield 220, 3) := by decide +kernel
theorem dX12_execute_39 : decode cX12_execute 39 = .ok (.iload_n 3, 1) := by decide +kernel
theorem dX12_execute_40 : decode cX12_execute 40 = .ok (.iconst 0, 1) := by decide +kernel
theorem dX12_execute_41 : decode cX12_execute 41 = .ok (.iastore, 1) := by decide +kernel
theorem dX12_execute_42 : decode cX12_execute 42 = .ok (.iinc 3 1, 3) := by decide +kernel
theorem dX12_execute_45 : decode cX12_execute 45 = .ok (.goto (-22), 3) := by decide +kernel
theorem dX12_execute_48 : decode cX12_execute 48 = .ok (.iconst 0, 1) := by decide +kernel
theorem dX12_execute_49 : decode cX12_execute 49 = .ok (.istore_n 3, 1) := by decide +kernel
theorem dX12_execute_50 : decode cX12_execute 50 = .ok (.iload_n 3, 1) := by decide +kernel
theorem dX12_execute_51 : decode cX12_execute 51 = .ok (.iload_n 2, 1) := by decide +kernel
theorem dX12_execute_52 : decode cX12_execute 52 = .ok (.if_icmp .ge 152, 3) := by decide +kernel
theorem dX12_execute_55 : decode cX12_execute 55 = .ok (.aload_n 0, 1) := by decide +kernel
theorem dX12_execute_56 : decode cX12_execute 56 = .ok (.getfield 115, 3) := by decide +kernel
theorem dX12_execute_59 : decode cX12_execute 59 = .ok (.bipush 100, 2) := by decide +kernel
theorem dX12_execute_61 : decode cX12_execute 61 = .ok (.iload_n 1, 1) := by decide +kernel
theorem dX12_execute_62 : decode cX12_execute 62 = .ok (.imul, 1) := by decide +kernel
theorem dX12_execute_63 : decode cX12_execute 63 = .ok (.iload_n 3, 1) := by decide +kernel
theorem dX12_execute_64 : decode cX12_execute 64 = .ok (.iadd, 1) := by decide +kernel
theorem dX12_execute_65 : decode cX12_execute 65 = .ok (.iaload, 1) := by decide +kernel
theorem dX12_execute_66 : decode cX12_execute 66 = .ok (.istore 4, 2) := by decide +kernel
theorem dX12_execute_68 : decode cX12_execute 68 = .ok (.iload 4, 2) := by decide +kernel
theorem dX12_execute_70 : decode cX12_execute 70 = .ok (.ifCond .eq 128, 3) := by decide +kernel
theorem dX12_execute_73 : decode cX12_execute 73 = .ok (.aload_n 0, 1) := by decide +kernel
theorem dX12_execute_74 : decode cX12_execute 74 = .ok (.getfield 13, 3) := by decide +kernel
theorem dX12_execute_77 : decode cX12_execute 77 = .ok (.iload 4, 2) := by decide +kernel
theorem dX12_execute_79 : decode cX12_execute 79 = .ok (.iaload, 1) := by decide +kernel
theorem dX12_execute_80 : decode cX12_execute 80 = .ok (.aload_n 0, 1) := by decide +kernel
theorem dX12_execute_81 : decode cX12_execute 81 = .ok (.getfield 217, 3) := by decide +kernel
theorem dX12_execute_84 : decode cX12_execute 84 = .ok (.aload_n 0, 1) := by decide +kernel
theorem dX12_execute_85 : decode cX12_execute 85 = .ok (.getfield 7, 3) := by decide +kernel
theorem dX12_execute_88 : decode cX12_execute 88 = .ok (.iload 4, 2) := by decide +kernel
theorem dX12_execute_90 : decode cX12_execute 90 = .ok (.iaload, 1) := by decide +kernel
theorem dX12_execute_91 : decode cX12_execute 91 = .ok (.iaload, 1) := by decide +kernel
theorem dX12_execute_92 : decode cX12_execute 92 = .ok (.if_icmp .gt 6, 3) := by decide +kernel
theorem dX12_execute_95 : decode cX12_execute 95 = .ok (.goto 103, 3) := by decide +kernel
theorem dX12_execute_98 : decode cX12_execute 98 = .ok (.aload_n 0, 1) := by decide +kernel
theorem dX12_execute_99 : decode cX12_execute 99 = .ok (.getfield 19, 3) := by decide +kernel
theorem dX12_execute_102 : decode cX12_execute 102 = .ok (.iload 4, 2) := by decide +kernel
theorem dX12_execute_104 : decode cX12_execute 104 = .ok (.iaload, 1) := by decide +kernel
theorem dX12_execute_105 : decode cX12_execute 105 = .ok (.istore 5, 2) := by decide +kernel
theorem dX12_execute_107 : decode cX12_execute 107 = .ok (.aload_n 0, 1) := by decide +kernel
theorem dX12_execute_108 : decode cX12_execute 108 = .ok (.getfield 217, 3) := by decide +kernel
theorem dX12_execute_111 : decode cX12_execute 111 = .ok (.aload_n 0, 1) := by decide +kernel
theorem dX12_execute_112 : decode cX12_execute 112 = .ok (.getfield 7, 3) := by decide +kernel
theorem dX12_execute_115 : decode cX12_execute 115 = .ok (.iload 4, 2) := by decide +kernel
theorem dX12_execute_117 : decode cX12_execute 117 = .ok (.iaload, 1) := by decide +kernel
theorem dX12_execute_118 : decode cX12_execute 118 = .ok (.aload_n 0, 1) := by decide +kernel
theorem dX12_execute_119 : decode cX12_execute 119 = .ok (.getfield 13, 3) := by decide +kernel
theorem dX12_execute_122 : decode cX12_execute 122 = .ok (.iload 4, 2) := by decide +kernel
theorem dX12_execute_124 : decode cX12_execute 124 = .ok (.iaload, 1) := by decide +kernel
theorem dX12_execute_125 : decode cX12_execute 125 = .ok (.iastore, 1) := by decide +kernel
theorem dX12_execute_126 : decode cX12_execute 126 = .ok (.aload_n 0, 1) := by decide +kernel
theorem dX12_execute_127 : decode cX12_execute 127 = .ok (.getfield 220, 3) := by decide +kernel
theorem dX12_execute_130 : decode cX12_execute 130 = .ok (.aload_n 0, 1) := by decide +kernel
theorem dX12_execute_131 : decode cX12_execute 131 = .ok (.getfield 7, 3) := by decide +kernel
theorem dX12_execute_134 : decode cX12_execute 134 = .ok (.iload 4, 2) := by decide +kernel
theorem dX12_execute_136 : decode cX12_execute 136 = .ok (.iaload, 1) := by decide +kernel
theorem dX12_execute_137 : decode cX12_execute 137 = .ok (.aload_n 0, 1) := by decide +kernel
theorem dX12_execute_138 : decode cX12_execute 138 = .ok (.getfield 214, 3) := by decide +kernel
theorem dX12_execute_141 : decode cX12_execute 141 = .ok (.iload 5, 2) := by decide +kernel
theorem dX12_execute_143 : decode cX12_execute 143 = .ok (.iaload, 1) := by decide +kernel
theorem dX12_execute_144 : decode cX12_execute 144 = .ok (.iastore, 1) := by decide +kernel
theorem dX12_execute_145 : decode cX12_execute 145 = .ok (.aload_n 0, 1) := by decide +kernel
theorem dX12_execute_146 : decode cX12_execute 146 = .ok (.getfield 16, 3) := by decide +kernel
theorem dX12_execute_149 : decode cX12_execute 149 = .ok (.iload 4, 2) := by decide +kernel
theorem dX12_execute_151 : decode cX12_execute 151 = .ok (.iaload, 1) := by decide +kernel
theorem dX12_execute_152 : decode cX12_execute 152 = .ok (.iconst 1, 1) := by decide +kernel
theorem dX12_execute_153 : decode cX12_execute 153 = .ok (.if_icmp .ne 17, 3) := by decide +kernel
theorem dX12_execute_156 : decode cX12_execute 156 = .ok (.aload_n 0, 1) := by decide +kernel
theorem dX12_execute_157 : decode cX12_execute 157 = .ok (.getfield 214, 3) := by decide +kernel
theorem dX12_execute_160 : decode cX12_execute 160 = .ok (.iload 5, 2) := by decide +kernel
theorem dX12_execute_162 : decode cX12_execute 162 = .ok (.aload_n 0, 1) := by decide +kernel
theorem dX12_execute_163 : decode cX12_execute 163 = .ok (.getfield 22, 3) := by decide +kernel
theorem dX12_execute_166 : decode cX12_execute 166 = .ok (.iload 4, 2) := by decide +kernel
theorem dX12_execute_168 : decode cX12_execute 168 = .ok (.iaload, 1) := by decide +kernel
theorem dX12_execute_169 : decode cX12_execute 169 = .ok (.iastore, 1) := by decide +kernel
theorem dX12_execute_170 : decode cX12_execute 170 = .ok (.aload_n 0, 1) := by decide +kernel
theorem dX12_execute_171 : decode cX12_execute 171 = .ok (.getfield 16, 3) := by decide +kernel
theorem dX12_execute_174 : decode cX12_execute 174 = .ok (.iload 4, 2) := by decide +kernel
theorem dX12_execute_176 : decode cX12_execute 176 = .ok (.iaload, 1) := by decide +kernel
theorem dX12_execute_177 : decode cX12_execute 177 = .ok (.iconst 2, 1) := by decide +kernel
theorem dX12_execute_178 : decode cX12_execute 178 = .ok (.if_icmp .ne 20, 3) := by decide +kernel
theorem dX12_execute_181 : decode cX12_execute 181 = .ok (.aload_n 0, 1) := by decide +kernel
theorem dX12_execute_182 : decode cX12_execute 182 = .ok (.getfield 214, 3) := by decide +kernel
theorem dX12_execute_185 : decode cX12_execute 185 = .ok (.iload 5, 2) := by decide +kernel
theorem dX12_execute_187 : decode cX12_execute 187 = .ok (.dup2, 1) := by decide +kernel
theorem dX12_execute_188 : decode cX12_execute 188 = .ok (.iaload, 1) := by decide +kernel
theorem dX12_execute_189 : decode cX12_execute 189 = .ok (.aload_n 0, 1) := by decide +kernel
theorem dX12_execute_190 : decode cX12_execute 190 = .ok (.getfield 22, 3) := by decide +kernel
theorem dX12_execute_193 : decode cX12_execute 193 = .ok (.iload 4, 2) := by decide +kernel
theorem dX12_execute_195 : decode cX12_execute 195 = .ok (.iaload, 1) := by decide +kernel
theorem dX12_execute_196 : decode cX12_execute 196 = .ok (.iadd, 1) := by decide +kernel
theorem dX12_execute_197 : decode cX12_execute 197 = .ok (.iastore, 1) := by decide +kernel
theorem dX12_execute_198 : decode cX12_execute 198 = .ok (.iinc 3 1, 3) := by decide +kernel
theorem dX12_execute_201 : decode cX12_execute 201 = .ok (.goto (-151), 3) := by decide +kernel
theorem dX12_execute_204 : decode cX12_execute 204 = .ok (.return_, 1) := by decide +kernel
theorem dX12_leads_0 : decode cX12_leads 0 = .ok (.aload_n 0, 1) := by decide +kernel
theorem dX12_leads_1 : decode cX12_leads 1 = .ok (.getfield 88, 3) := by decide +kernel
theorem dX12_leads_4 : decode cX12_leads 4 = .ok (.iload_n 1, 1) := by decide +kernel
theorem dX12_leads_5 : decode cX12_leads 5 = .ok (.iaload, 1) := by decide +kernel
theorem dX12_leads_6 : decode cX12_leads 6 = .ok (.aload_n 0, 1) := by decide +kernel
theorem dX12_leads_7 : decode cX12_leads 7 = .ok (.getfield 223, 3) := by decide +kernel
theorem dX12_leads_10 : decode cX12_leads 10 = .ok (.irem, 1) := by decide +kernel
theorem dX12_leads_11 : decode cX12_leads 11 = .ok (.iload_n 1, 1) := by decide +kernel
theorem dX12_leads_12 : decode cX12_leads 12 = .ok (.if_icmp .ne 7, 3) := by decide +kernel
theorem dX12_leads_15 : decode cX12_leads 15 = .ok (.iconst 1, 1) := by decide +kernel
theorem dX12_leads_16 : decode cX12_leads 16 = .ok (.goto 4, 3) := by decide +kernel
theorem dX12_leads_19 : decode cX12_leads 19 = .ok (.iconst 0, 1) := by decide +kernel
theorem dX12_leads_20 : decode cX12_leads 20 = .ok (.ireturn, 1) := by decide +kernel
theorem dX12_leader_0 : decode cX12_leader 0 = .ok (.aload_n 0, 1) := by decide +kernel
theorem dX12_leader_1 : decode cX12_leader 1 = .ok (.getfield 88, 3) := by decide +kernel
theorem dX12_leader_4 : decode cX12_leader 4 = .ok (.iload_n 1, 1) := by decide +kernel
theorem dX12_leader_5 : decode cX12_leader 5 = .ok (.iaload, 1) := by decide +kernel
theorem dX12_leader_6 : decode cX12_leader 6 = .ok (.aload_n 0, 1) := by decide +kernel
theorem dX12_leader_7 : decode cX12_leader 7 = .ok (.getfield 223, 3) := by decide +kernel
theorem dX12_leader_10 : decode cX12_leader 10 = .ok (.irem, 1) := by decide +kernel
theorem dX12_leader_11 : decode cX12_leader 11 = .ok (.ireturn, 1) := by decide +kernel
theorem dX12_executed_0 : decode cX12_executed 0 = .ok (.aload_n 0, 1) := by decide +kernel
theorem dX12_executed_1 : decode cX12_executed 1 = .ok (.iload_n 1, 1) := by decide +kernel
theorem dX12_executed_2 : decode cX12_executed 2 = .ok (.invokevirtual 248, 3) := by decide +kernel
theorem dX12_executed_5 : decode cX12_executed 5 = .ok (.ifCond .eq 20, 3) := by decide +kernel
theorem dX12_executed_8 : decode cX12_executed 8 = .ok (.aload_n 0, 1) := by decide +kernel
theorem dX12_executed_9 : decode cX12_executed 9 = .ok (.getfield 94, 3) := by decide +kernel
theorem dX12_executed_12 : decode cX12_executed 12 = .ok (.iload_n 1, 1) := by decide +kernel
theorem dX12_executed_13 : decode cX12_executed 13 = .ok (.iaload, 1) := by decide +kernel
theorem dX12_executed_14 : decode cX12_executed 14 = .ok (.iconst 2, 1) := by decide +kernel
theorem dX12_executed_15 : decode cX12_executed 15 = .ok (.if_icmp .eq 10, 3) := by decide +kernel
theorem dX12_executed_18 : decode cX12_executed 18 = .ok (.aload_n 0, 1) := by decide +kernel
theorem dX12_executed_19 : decode cX12_executed 19 = .ok (.getfield 103, 3) := by decide +kernel
theorem dX12_executed_22 : decode cX12_executed 22 = .ok (.iload_n 1, 1) := by decide +kernel
theorem dX12_executed_23 : decode cX12_executed 23 = .ok (.iaload, 1) := by decide +kernel
theorem dX12_executed_24 : decode cX12_executed 24 = .ok (.ireturn, 1) := by decide +kernel
theorem dX12_executed_25 : decode cX12_executed 25 = .ok (.aload_n 0, 1) := by decide +kernel
theorem dX12_executed_26 : decode cX12_executed 26 = .ok (.getfield 109, 3) := by decide +kernel
theorem dX12_executed_29 : decode cX12_executed 29 = .ok (.iload_n 1, 1) := by decide +kernel
theorem dX12_executed_30 : decode cX12_executed 30 = .ok (.iaload, 1) := by decide +kernel
theorem dX12_executed_31 : decode cX12_executed 31 = .ok (.aload_n 0, 1) := by decide +kernel
theorem dX12_executed_32 : decode cX12_executed 32 = .ok (.getfield 103, 3) := by decide +kernel
theorem dX12_executed_35 : decode cX12_executed 35 = .ok (.iload_n 1, 1) := by decide +kernel
theorem dX12_executed_36 : decode cX12_executed 36 = .ok (.iaload, 1) := by decide +kernel
theorem dX12_executed_37 : decode cX12_executed 37 = .ok (.if_icmp .ge 12, 3) := by decide +kernel
theorem dX12_executed_40 : decode cX12_executed 40 = .ok (.aload_n 0, 1) := by decide +kernel
theorem dX12_executed_41 : decode cX12_executed 41 = .ok (.getfield 109, 3) := by decide +kernel
theorem dX12_executed_44 : decode cX12_executed 44 = .ok (.iload_n 1, 1) := by decide +kernel
theorem dX12_executed_45 : decode cX12_executed 45 = .ok (.iaload, 1) := by decide +kernel
theorem dX12_executed_46 : decode cX12_executed 46 = .ok (.goto 9, 3) := by decide +kernel
theorem dX12_executed_49 : decode cX12_executed 49 = .ok (.aload_n 0, 1) := by decide +kernel
theorem dX12_executed_50 : decode cX12_executed 50 = .ok (.getfield 103, 3) := by decide +kernel
theorem dX12_executed_53 : decode cX12_executed 53 = .ok (.iload_n 1, 1) := by decide +kernel
theorem dX12_executed_54 : decode cX12_executed 54 = .ok (.iaload, 1) := by decide +kernel
theorem dX12_executed_55 : decode cX12_executed 55 = .ok (.ireturn, 1) := by decide +kernel
theorem dX12_held_0 : decode cX12_held 0 = .ok (.iconst 0, 1) := by decide +kernel
theorem dX12_held_1 : decode cX12_held 1 = .ok (.istore_n 3, 1) := by decide +kernel
theorem dX12_held_2 : decode cX12_held 2 = .ok (.iload_n 3, 1) := by decide +kernel
theorem dX12_held_3 : decode cX12_held 3 = .ok (.aload_n 0, 1) := by decide +kernel
theorem dX12_held_4 : decode cX12_held 4 = .ok (.getfield 118, 3) := by decide +kernel
theorem dX12_held_7 : decode cX12_held 7 = .ok (.iload_n 1, 1) := by decide +kernel
theorem dX12_held_8 : decode cX12_held 8 = .ok (.iaload, 1) := by decide +kernel
theorem dX12_held_9 : decode cX12_held 9 = .ok (.if_icmp .ge 26, 3) := by decide +kernel
theorem dX12_held_12 : decode cX12_held 12 = .ok (.aload_n 0, 1) := by decide +kernel
theorem dX12_held_13 : decode cX12_held 13 = .ok (.getfield 121, 3) := by decide +kernel
theorem dX12_held_16 : decode cX12_held 16 = .ok (.bipush 12, 2) := by decide +kernel
theorem dX12_held_18 : decode cX12_held 18 = .ok (.iload_n 1, 1) := by decide +kernel
theorem dX12_held_19 : decode cX12_held 19 = .ok (.imul, 1) := by decide +kernel
theorem dX12_held_20 : decode cX12_held 20 = .ok (.iload_n 3, 1) := by decide +kernel
theorem dX12_held_21 : decode cX12_held 21 = .ok (.iadd, 1) := by decide +kernel
theorem dX12_held_22 : decode cX12_held 22 = .ok (.iaload, 1) := by decide +kernel
theorem dX12_held_23 : decode cX12_held 23 = .ok (.iload_n 2, 1) := by decide +kernel
theorem dX12_held_24 : decode cX12_held 24 = .ok (.if_icmp .ne 5, 3) := by decide +kernel
theorem dX12_held_27 : decode cX12_held 27 = .ok (.iload_n 3, 1) := by decide +kernel
theorem dX12_held_28 : decode cX12_held 28 = .ok (.ireturn, 1) := by decide +kernel
theorem dX12_held_29 : decode cX12_held 29 = .ok (.iinc 3 1, 3) := by decide +kernel
theorem dX12_held_32 : decode cX12_held 32 = .ok (.goto (-30), 3) := by decide +kernel
theorem dX12_held_35 : decode cX12_held 35 = .ok (.iconst (-1), 1) := by decide +kernel
theorem dX12_held_36 : decode cX12_held 36 = .ok (.ireturn, 1) := by decide +kernel
theorem dX12_hold_0 : decode cX12_hold 0 = .ok (.aload_n 0, 1) := by decide +kernel
theorem dX12_hold_1 : decode cX12_hold 1 = .ok (.iload_n 1, 1) := by decide +kernel
theorem dX12_hold_2 : decode cX12_hold 2 = .ok (.iload_n 2, 1) := by decide +kernel
theorem dX12_hold_3 : decode cX12_hold 3 = .ok (.invokevirtual 252, 3) := by decide +kernel
theorem dX12_hold_6 : decode cX12_hold 6 = .ok (.istore 4, 2) := by decide +kernel
theorem dX12_hold_8 : decode cX12_hold 8 = .ok (.iload 4, 2) := by decide +kernel
theorem dX12_hold_10 : decode cX12_hold 10 = .ok (.iconst (-1), 1) := by decide +kernel
theorem dX12_hold_11 : decode cX12_hold 11 = .ok (.if_icmp .ne 21, 3) := by decide +kernel
theorem dX12_hold_14 : decode cX12_hold 14 = .ok (.aload_n 0, 1) := by decide +kernel
theorem dX12_hold_15 : decode cX12_hold 15 = .ok (.getfield 118, 3) := by decide +kernel
theorem dX12_hold_18 : decode cX12_hold 18 = .ok (.iload_n 1, 1) := by decide +kernel
theorem dX12_hold_19 : decode cX12_hold 19 = .ok (.iaload, 1) := by decide +kernel
theorem dX12_hold_20 : decode cX12_hold 20 = .ok (.istore 4, 2) := by decide +kernel
theorem dX12_hold_22 : decode cX12_hold 22 = .ok (.aload_n 0, 1) := by decide +kernel
theorem dX12_hold_23 : decode cX12_hold 23 = .ok (.getfield 118, 3) := by decide +kernel
theorem dX12_hold_26 : decode cX12_hold 26 = .ok (.iload_n 1, 1) := by decide +kernel
theorem dX12_hold_27 : decode cX12_hold 27 = .ok (.dup2, 1) := by decide +kernel
theorem dX12_hold_28 : decode cX12_hold 28 = .ok (.iaload, 1) := by decide +kernel
theorem dX12_hold_29 : decode cX12_hold 29 = .ok (.iconst 1, 1) := by decide +kernel
theorem dX12_hold_30 : decode cX12_hold 30 = .ok (.iadd, 1) := by decide +kernel
theorem dX12_hold_31 : decode cX12_hold 31 = .ok (.iastore, 1) := by decide +kernel
theorem dX12_hold_32 : decode cX12_hold 32 = .ok (.aload_n 0, 1) := by decide +kernel
theorem dX12_hold_33 : decode cX12_hold 33 = .ok (.getfield 121, 3) := by decide +kernel
theorem dX12_hold_36 : decode cX12_hold 36 = .ok (.bipush 12, 2) := by decide +kernel
theorem dX12_hold_38 : decode cX12_hold 38 = .ok (.iload_n 1, 1) := by decide +kernel
theorem dX12_hold_39 : decode cX12_hold 39 = .ok (.imul, 1) := by decide +kernel
theorem dX12_hold_40 : decode cX12_hold 40 = .ok (.iload 4, 2) := by decide +kernel
theorem dX12_hold_42 : decode cX12_hold 42 = .ok (.iadd, 1) := by decide +kernel
theorem dX12_hold_43 : decode cX12_hold 43 = .ok (.iload_n 2, 1) := by decide +kernel
theorem dX12_hold_44 : decode cX12_hold 44 = .ok (.iastore, 1) := by decide +kernel
theorem dX12_hold_45 : decode cX12_hold 45 = .ok (.aload_n 0, 1) := by decide +kernel
theorem dX12_hold_46 : decode cX12_hold 46 = .ok (.getfield 124, 3) := by decide +kernel
theorem dX12_hold_49 : decode cX12_hold 49 = .ok (.bipush 12, 2) := by decide +kernel
theorem dX12_hold_51 : decode cX12_hold 51 = .ok (.iload_n 1, 1) := by decide +kernel
theorem dX12_hold_52 : decode cX12_hold 52 = .ok (.imul, 1) := by decide +kernel
theorem dX12_hold_53 : decode cX12_hold 53 = .ok (.iload 4, 2) := by decide +kernel
theorem dX12_hold_55 : decode cX12_hold 55 = .ok (.iadd, 1) := by decide +kernel
theorem dX12_hold_56 : decode cX12_hold 56 = .ok (.iload_n 3, 1) := by decide +kernel
theorem dX12_hold_57 : decode cX12_hold 57 = .ok (.iastore, 1) := by decide +kernel
theorem dX12_hold_58 : decode cX12_hold 58 = .ok (.return_, 1) := by decide +kernel
theorem dX12_unhold_0 : decode cX12_unhold 0 = .ok (.aload_n 0, 1) := by decide +kernel
theorem dX12_unhold_1 : decode cX12_unhold 1 = .ok (.iload_n 1, 1) := by decide +kernel
theorem dX12_unhold_2 : decode cX12_unhold 2 = .ok (.iload_n 2, 1) := by decide +kernel
theorem dX12_unhold_3 : decode cX12_unhold 3 = .ok (.invokevirtual 252, 3) := by decide +kernel
theorem dX12_unhold_6 : decode cX12_unhold 6 = .ok (.istore_n 3, 1) := by decide +kernel
theorem dX12_unhold_7 : decode cX12_unhold 7 = .ok (.iload_n 3, 1) := by decide +kernel
theorem dX12_unhold_8 : decode cX12_unhold 8 = .ok (.iconst (-1), 1) := by decide +kernel
theorem dX12_unhold_9 : decode cX12_unhold 9 = .ok (.if_icmp .ne 4, 3) := by decide +kernel
theorem dX12_unhold_12 : decode cX12_unhold 12 = .ok (.return_, 1) := by decide +kernel
theorem dX12_unhold_13 : decode cX12_unhold 13 = .ok (.aload_n 0, 1) := by decide +kernel
theorem dX12_unhold_14 : decode cX12_unhold 14 = .ok (.getfield 118, 3) := by decide +kernel
theorem dX12_unhold_17 : decode cX12_unhold 17 = .ok (.iload_n 1, 1) := by decide +kernel
theorem dX12_unhold_18 : decode cX12_unhold 18 = .ok (.dup2, 1) := by decide +kernel
theorem dX12_unhold_19 : decode cX12_unhold 19 = .ok (.iaload, 1) := by decide +kernel
theorem dX12_unhold_20 : decode cX12_unhold 20 = .ok (.iconst 1, 1) := by decide +kernel
theorem dX12_unhold_21 : decode cX12_unhold 21 = .ok (.isub, 1) := by decide +kernel
theorem dX12_unhold_22 : decode cX12_unhold 22 = .ok (.iastore, 1) := by decide +kernel
theorem dX12_unhold_23 : decode cX12_unhold 23 = .ok (.aload_n 0, 1) := by decide +kernel
theorem dX12_unhold_24 : decode cX12_unhold 24 = .ok (.getfield 121, 3) := by decide +kernel
theorem dX12_unhold_27 : decode cX12_unhold 27 = .ok (.bipush 12, 2) := by decide +kernel
theorem dX12_unhold_29 : decode cX12_unhold 29 = .ok (.iload_n 1, 1) := by decide +kernel
theorem dX12_unhold_30 : decode cX12_unhold 30 = .ok (.imul, 1) := by decide +kernel
theorem dX12_unhold_31 : decode cX12_unhold 31 = .ok (.iload_n 3, 1) := by decide +kernel
theorem dX12_unhold_32 : decode cX12_unhold 32 = .ok (.iadd, 1) := by decide +kernel
theorem dX12_unhold_33 : decode cX12_unhold 33 = .ok (.aload_n 0, 1) := by decide +kernel
theorem dX12_unhold_34 : decode cX12_unhold 34 = .ok (.getfield 121, 3) := by decide +kernel
theorem dX12_unhold_37 : decode cX12_unhold 37 = .ok (.bipush 12, 2) := by decide +kernel
theorem dX12_unhold_39 : decode cX12_unhold 39 = .ok (.iload_n 1, 1) := by decide +kernel
theorem dX12_unhold_40 : decode cX12_unhold 40 = .ok (.imul, 1) := by decide +kernel
theorem dX12_unhold_41 : decode cX12_unhold 41 = .ok (.aload_n 0, 1) := by decide +kernel
theorem dX12_unhold_42 : decode cX12_unhold 42 = .ok (.getfield 118, 3) := by decide +kernel
theorem dX12_unhold_45 : decode cX12_unhold 45 = .ok (.iload_n 1, 1) := by decide +kernel
theorem dX12_unhold_46 : decode cX12_unhold 46 = .ok (.iaload, 1) := by decide +kernel
theorem dX12_unhold_47 : decode cX12_unhold 47 = .ok (.iadd, 1) := by decide +kernel
theorem dX12_unhold_48 : decode cX12_unhold 48 = .ok (.iaload, 1) := by decide +kernel
theorem dX12_unhold_49 : decode cX12_unhold 49 = .ok (.iastore, 1) := by decide +kernel
theorem dX12_unhold_50 : decode cX12_unhold 50 = .ok (.aload_n 0, 1) := by decide +kernel
theorem dX12_unhold_51 : decode cX12_unhold 51 = .ok (.getfield 124, 3) := by decide +kernel
theorem dX12_unhold_54 : decode cX12_unhold 54 = .ok (.bipush 12, 2) := by decide +kernel
theorem dX12_unhold_56 : decode cX12_unhold 56 = .ok (.iload_n 1, 1) := by decide +kernel
theorem dX12_unhold_57 : decode cX12_unhold 57 = .ok (.imul, 1) := by decide +kernel
theorem dX12_unhold_58 : decode cX12_unhold 58 = .ok (.iload_n 3, 1) := by decide +kernel
theorem dX12_unhold_59 : decode cX12_unhold 59 = .ok (.iadd, 1) := by decide +kernel
theorem dX12_unhold_60 : decode cX12_unhold 60 = .ok (.aload_n 0, 1) := by decide +kernel
theorem dX12_unhold_61 : decode cX12_unhold 61 = .ok (.getfield 124, 3) := by decide +kernel
theorem dX12_unhold_64 : decode cX12_unhold 64 = .ok (.bipush 12, 2) := by decide +kernel
theorem dX12_unhold_66 : decode cX12_unhold 66 = .ok (.iload_n 1, 1) := by decide +kernel
theorem dX12_unhold_67 : decode cX12_unhold 67 = .ok (.imul, 1) := by decide +kernel
theorem dX12_unhold_68 : decode cX12_unhold 68 = .ok (.aload_n 0, 1) := by decide +kernel
theorem dX12_unhold_69 : decode cX12_unhold 69 = .ok (.getfield 118, 3) := by decide +kernel
theorem dX12_unhold_72 : decode cX12_unhold 72 = .ok (.iload_n 1, 1) := by decide +kernel
theorem dX12_unhold_73 : decode cX12_unhold 73 = .ok (.iaload, 1) := by decide +kernel
theorem dX12_unhold_74 : decode cX12_unhold 74 = .ok (.iadd, 1) := by decide +kernel
theorem dX12_unhold_75 : decode cX12_unhold 75 = .ok (.iaload, 1) := by decide +kernel
theorem dX12_unhold_76 : decode cX12_unhold 76 = .ok (.iastore, 1) := by decide +kernel
theorem dX12_unhold_77 : decode cX12_unhold 77 = .ok (.return_, 1) := by decide +kernel
theorem dX12_forget_0 : decode cX12_forget 0 = .ok (.aload_n 0, 1) := by decide +kernel
theorem dX12_forget_1 : decode cX12_forget 1 = .ok (.getfield 118, 3) := by decide +kernel
theorem dX12_forget_4 : decode cX12_forget 4 = .ok (.iload_n 1, 1) := by decide +kernel
theorem dX12_forget_5 : decode cX12_forget 5 = .ok (.iconst 0, 1) := by decide +kernel
theorem dX12_forget_6 : decode cX12_forget 6 = .ok (.iastore, 1) := by decide +kernel
theorem dX12_forget_7 : decode cX12_forget 7 = .ok (.aload_n 0, 1) := by decide +kernel
theorem dX12_forget_8 : decode cX12_forget 8 = .ok (.getfield 127, 3) := by decide +kernel
theorem dX12_forget_11 : decode cX12_forget 11 = .ok (.iload_n 1, 1) := by decide +kernel
theorem dX12_forget_12 : decode cX12_forget 12 = .ok (.iconst 0, 1) := by decide +kernel
theorem dX12_forget_13 : decode cX12_forget 13 = .ok (.iastore, 1) := by decide +kernel
theorem dX12_forget_14 : decode cX12_forget 14 = .ok (.aload_n 0, 1) := by decide +kernel
theorem dX12_forget_15 : decode cX12_forget 15 = .ok (.getfield 130, 3) := by decide +kernel
theorem dX12_forget_18 : decode cX12_forget 18 = .ok (.iload_n 1, 1) := by decide +kernel
theorem dX12_forget_19 : decode cX12_forget 19 = .ok (.iconst 0, 1) := by decide +kernel
theorem dX12_forget_20 : decode cX12_forget 20 = .ok (.iastore, 1) := by decide +kernel
theorem dX12_forget_21 : decode cX12_forget 21 = .ok (.aload_n 0, 1) := by decide +kernel
theorem dX12_forget_22 : decode cX12_forget 22 = .ok (.getfield 136, 3) := by decide +kernel
theorem dX12_forget_25 : decode cX12_forget 25 = .ok (.iload_n 1, 1) := by decide +kernel
theorem dX12_forget_26 : decode cX12_forget 26 = .ok (.iconst 0, 1) := by decide +kernel
theorem dX12_forget_27 : decode cX12_forget 27 = .ok (.iastore, 1) := by decide +kernel
theorem dX12_forget_28 : decode cX12_forget 28 = .ok (.return_, 1) := by decide +kernel
theorem dX12_append_0 : decode cX12_append 0 = .ok (.aload_n 0, 1) := by decide +kernel
theorem dX12_append_1 : decode cX12_append 1 = .ok (.getfield 115, 3) := by decide +kernel
theorem dX12_append_4 : decode cX12_append 4 = .ok (.bipush 100, 2) := by decide +kernel
theorem dX12_append_6 : decode cX12_append 6 = .ok (.iload_n 1, 1) := by decide +kernel
theorem dX12_append_7 : decode cX12_append 7 = .ok (.imul, 1) := by decide +kernel
theorem dX12_append_8 : decode cX12_append 8 = .ok (.aload_n 0, 1) := by decide +kernel
theorem dX12_append_9 : decode cX12_append 9 = .ok (.getfield 103, 3) := by decide +kernel
theorem dX12_append_12 : decode cX12_append 12 = .ok (.iload_n 1, 1) := by decide +kernel
theorem dX12_append_13 : decode cX12_append 13 = .ok (.iaload, 1) := by decide +kernel
theorem dX12_append_14 : decode cX12_append 14 = .ok (.iadd, 1) := by decide +kernel
theorem dX12_append_15 : decode cX12_append 15 = .ok (.iload_n 2, 1) := by decide +kernel
theorem dX12_append_16 : decode cX12_append 16 = .ok (.iastore, 1) := by decide +kernel
theorem dX12_append_17 : decode cX12_append 17 = .ok (.aload_n 0, 1) := by decide +kernel
theorem dX12_append_18 : decode cX12_append 18 = .ok (.getfield 103, 3) := by decide +kernel
theorem dX12_append_21 : decode cX12_append 21 = .ok (.iload_n 1, 1) := by decide +kernel
theorem dX12_append_22 : decode cX12_append 22 = .ok (.dup2, 1) := by decide +kernel
theorem dX12_append_23 : decode cX12_append 23 = .ok (.iaload, 1) := by decide +kernel
theorem dX12_append_24 : decode cX12_append 24 = .ok (.iconst 1, 1) := by decide +kernel
theorem dX12_append_25 : decode cX12_append 25 = .ok (.iadd, 1) := by decide +kernel
theorem dX12_append_26 : decode cX12_append 26 = .ok (.iastore, 1) := by decide +kernel
theorem dX12_append_27 : decode cX12_append 27 = .ok (.return_, 1) := by decide +kernel
theorem dX12_answer_0 : decode cX12_answer 0 = .ok (.aload_n 0, 1) := by decide +kernel
theorem dX12_answer_1 : decode cX12_answer 1 = .ok (.getfield 7, 3) := by decide +kernel
theorem dX12_answer_4 : decode cX12_answer 4 = .ok (.iload_n 2, 1) := by decide +kernel
theorem dX12_answer_5 : decode cX12_answer 5 = .ok (.iaload, 1) := by decide +kernel
theorem dX12_answer_6 : decode cX12_answer 6 = .ok (.istore_n 3, 1) := by decide +kernel
theorem dX12_answer_7 : decode cX12_answer 7 = .ok (.aload_n 0, 1) := by decide +kernel
theorem dX12_answer_8 : decode cX12_answer 8 = .ok (.iload_n 1, 1) := by decide +kernel
theorem dX12_answer_9 : decode cX12_answer 9 = .ok (.invokevirtual 248, 3) := by decide +kernel
theorem dX12_answer_12 : decode cX12_answer 12 = .ok (.ifCond .eq 30, 3) := by decide +kernel
theorem dX12_answer_15 : decode cX12_answer 15 = .ok (.aload_n 0, 1) := by decide +kernel
theorem dX12_answer_16 : decode cX12_answer 16 = .ok (.iload_n 1, 1) := by decide +kernel
theorem dX12_answer_17 : decode cX12_answer 17 = .ok (.aload_n 0, 1) := by decide +kernel
theorem dX12_answer_18 : decode cX12_answer 18 = .ok (.getfield 103, 3) := by decide +kernel
theorem dX12_answer_21 : decode cX12_answer 21 = .ok (.iload_n 1, 1) := by decide +kernel
theorem dX12_answer_22 : decode cX12_answer 22 = .ok (.iaload, 1) := by decide +kernel
theorem dX12_answer_23 : decode cX12_answer 23 = .ok (.invokevirtual 256, 3) := by decide +kernel
theorem dX12_answer_26 : decode cX12_answer 26 = .ok (.aload_n 0, 1) := by decide +kernel
theorem dX12_answer_27 : decode cX12_answer 27 = .ok (.getfield 217, 3) := by decide +kernel
theorem dX12_answer_30 : decode cX12_answer 30 = .ok (.iload_n 3, 1) := by decide +kernel
theorem dX12_answer_31 : decode cX12_answer 31 = .ok (.iaload, 1) := by decide +kernel
theorem dX12_answer_32 : decode cX12_answer 32 = .ok (.aload_n 0, 1) := by decide +kernel
theorem dX12_answer_33 : decode cX12_answer 33 = .ok (.getfield 13, 3) := by decide +kernel
theorem dX12_answer_36 : decode cX12_answer 36 = .ok (.iload_n 2, 1) := by decide +kernel
theorem dX12_answer_37 : decode cX12_answer 37 = .ok (.iaload, 1) := by decide +kernel
theorem dX12_answer_38 : decode cX12_answer 38 = .ok (.if_icmp .eq 4, 3) := by decide +kernel
theorem dX12_answer_41 : decode cX12_answer 41 = .ok (.return_, 1) := by decide +kernel
theorem dX12_answer_42 : decode cX12_answer 42 = .ok (.aload_n 0, 1) := by decide +kernel
theorem dX12_answer_43 : decode cX12_answer 43 = .ok (.bipush 11, 2) := by decide +kernel
theorem dX12_answer_45 : decode cX12_answer 45 = .ok (.iload_n 1, 1) := by decide +kernel
theorem dX12_answer_46 : decode cX12_answer 46 = .ok (.iload_n 3, 1) := by decide +kernel
theorem dX12_answer_47 : decode cX12_answer 47 = .ok (.aload_n 0, 1) := by decide +kernel
theorem dX12_answer_48 : decode cX12_answer 48 = .ok (.getfield 88, 3) := by decide +kernel
theorem dX12_answer_51 : decode cX12_answer 51 = .ok (.iload_n 1, 1) := by decide +kernel
theorem dX12_answer_52 : decode cX12_answer 52 = .ok (.iaload, 1) := by decide +kernel
theorem dX12_answer_53 : decode cX12_answer 53 = .ok (.aload_n 0, 1) := by decide +kernel
theorem dX12_answer_54 : decode cX12_answer 54 = .ok (.getfield 91, 3) := by decide +kernel
theorem dX12_answer_57 : decode cX12_answer 57 = .ok (.iload_n 1, 1) := by decide +kernel
theorem dX12_answer_58 : decode cX12_answer 58 = .ok (.iaload, 1) := by decide +kernel
theorem dX12_answer_59 : decode cX12_answer 59 = .ok (.aload_n 0, 1) := by decide +kernel
theorem dX12_answer_60 : decode cX12_answer 60 = .ok (.getfield 103, 3) := by decide +kernel
theorem dX12_answer_63 : decode cX12_answer 63 = .ok (.iload_n 1, 1) := by decide +kernel
theorem dX12_answer_64 : decode cX12_answer 64 = .ok (.iaload, 1) := by decide +kernel
theorem dX12_answer_65 : decode cX12_answer 65 = .ok (.iload_n 2, 1) := by decide +kernel
theorem dX12_answer_66 : decode cX12_answer 66 = .ok (.invokevirtual 241, 3) := by decide +kernel
theorem dX12_answer_69 : decode cX12_answer 69 = .ok (.istore 4, 2) := by decide +kernel
theorem dX12_answer_71 : decode cX12_answer 71 = .ok (.iload 4, 2) := by decide +kernel
theorem dX12_answer_73 : decode cX12_answer 73 = .ok (.iconst (-1), 1) := by decide +kernel
theorem dX12_answer_74 : decode cX12_answer 74 = .ok (.if_icmp .eq 11, 3) := by decide +kernel
theorem dX12_answer_77 : decode cX12_answer 77 = .ok (.aload_n 0, 1) := by decide +kernel
theorem dX12_answer_78 : decode cX12_answer 78 = .ok (.iload_n 1, 1) := by decide +kernel
theorem dX12_answer_79 : decode cX12_answer 79 = .ok (.invokevirtual 248, 3) := by decide +kernel
theorem dX12_answer_82 : decode cX12_answer 82 = .ok (.ifCond .ne 4, 3) := by decide +kernel
theorem dX12_answer_85 : decode cX12_answer 85 = .ok (.return_, 1) := by decide +kernel
theorem dX12_answer_86 : decode cX12_answer 86 = .ok (.aload_n 0, 1) := by decide +kernel
theorem dX12_answer_87 : decode cX12_answer 87 = .ok (.getfield 78, 3) := by decide +kernel
theorem dX12_answer_90 : decode cX12_answer 90 = .ok (.iload 4, 2) := by decide +kernel
theorem dX12_answer_92 : decode cX12_answer 92 = .ok (.iconst 1, 1) := by decide +kernel
theorem dX12_answer_93 : decode cX12_answer 93 = .ok (.bastore, 1) := by decide +kernel
theorem dX12_answer_94 : decode cX12_answer 94 = .ok (.aload_n 0, 1) := by decide +kernel
theorem dX12_answer_95 : decode cX12_answer 95 = .ok (.getfield 63, 3) := by decide +kernel
theorem dX12_answer_98 : decode cX12_answer 98 = .ok (.iload 4, 2) := by decide +kernel
theorem dX12_answer_100 : decode cX12_answer 100 = .ok (.aload_n 0, 1) := by decide +kernel
theorem dX12_answer_101 : decode cX12_answer 101 = .ok (.getfield 220, 3) := by decide +kernel
theorem dX12_answer_104 : decode cX12_answer 104 = .ok (.iload_n 3, 1) := by decide +kernel
theorem dX12_answer_105 : decode cX12_answer 105 = .ok (.iaload, 1) := by decide +kernel
theorem dX12_answer_106 : decode cX12_answer 106 = .ok (.iastore, 1) := by decide +kernel
theorem dX12_answer_107 : decode cX12_answer 107 = .ok (.return_, 1) := by decide +kernel
theorem dX12_take_0 : decode cX12_take 0 = .ok (.aload_n 0, 1) := by decide +kernel
theorem dX12_take_1 : decode cX12_take 1 = .ok (.getfield 103, 3) := by decide +kernel
theorem dX12_take_4 : decode cX12_take 4 = .ok (.iload_n 1, 1) := by decide +kernel
theorem dX12_take_5 : decode cX12_take 5 = .ok (.iaload, 1) := by decide +kernel
theorem dX12_take_6 : decode cX12_take 6 = .ok (.bipush 100, 2) := by decide +kernel
theorem dX12_take_8 : decode cX12_take 8 = .ok (.if_icmp .ge 81, 3) := by decide +kernel
theorem dX12_take_11 : decode cX12_take 11 = .ok (.aload_n 0, 1) := by decide +kernel
theorem dX12_take_12 : decode cX12_take 12 = .ok (.iload_n 1, 1) := by decide +kernel
theorem dX12_take_13 : decode cX12_take 13 = .ok (.aload_n 0, 1) := by decide +kernel
theorem dX12_take_14 : decode cX12_take 14 = .ok (.getfield 103, 3) := by decide +kernel
theorem dX12_take_17 : decode cX12_take 17 = .ok (.iload_n 1, 1) := by decide +kernel
theorem dX12_take_18 : decode cX12_take 18 = .ok (.iaload, 1) := by decide +kernel
theorem dX12_take_19 : decode cX12_take 19 = .ok (.iconst 1, 1) := by decide +kernel
theorem dX12_take_20 : decode cX12_take 20 = .ok (.iadd, 1) := by decide +kernel
theorem dX12_take_21 : decode cX12_take 21 = .ok (.aload_n 0, 1) := by decide +kernel
theorem dX12_take_22 : decode cX12_take 22 = .ok (.getfield 106, 3) := by decide +kernel
theorem dX12_take_25 : decode cX12_take 25 = .ok (.iload_n 1, 1) := by decide +kernel
theorem dX12_take_26 : decode cX12_take 26 = .ok (.iaload, 1) := by decide +kernel
theorem dX12_take_27 : decode cX12_take 27 = .ok (.isub, 1) := by decide +kernel
theorem dX12_take_28 : decode cX12_take 28 = .ok (.invokevirtual 252, 3) := by decide +kernel
theorem dX12_take_31 : decode cX12_take 31 = .ok (.iconst (-1), 1) := by decide +kernel
theorem dX12_take_32 : decode cX12_take 32 = .ok (.if_icmp .eq 57, 3) := by decide +kernel
theorem dX12_take_35 : decode cX12_take 35 = .ok (.aload_n 0, 1) := by decide +kernel
theorem dX12_take_36 : decode cX12_take 36 = .ok (.getfield 103, 3) := by decide +kernel
theorem dX12_take_39 : decode cX12_take 39 = .ok (.iload_n 1, 1) := by decide +kernel
theorem dX12_take_40 : decode cX12_take 40 = .ok (.iaload, 1) := by decide +kernel
theorem dX12_take_41 : decode cX12_take 41 = .ok (.iconst 1, 1) := by decide +kernel
theorem dX12_take_42 : decode cX12_take 42 = .ok (.iadd, 1) := by decide +kernel
theorem dX12_take_43 : decode cX12_take 43 = .ok (.aload_n 0, 1) := by decide +kernel
theorem dX12_take_44 : decode cX12_take 44 = .ok (.getfield 106, 3) := by decide +kernel
theorem dX12_take_47 : decode cX12_take 47 = .ok (.iload_n 1, 1) := by decide +kernel
theorem dX12_take_48 : decode cX12_take 48 = .ok (.iaload, 1) := by decide +kernel
theorem dX12_take_49 : decode cX12_take 49 = .ok (.isub, 1) := by decide +kernel
theorem dX12_take_50 : decode cX12_take 50 = .ok (.istore_n 2, 1) := by decide +kernel
theorem dX12_take_51 : decode cX12_take 51 = .ok (.aload_n 0, 1) := by decide +kernel
theorem dX12_take_52 : decode cX12_take 52 = .ok (.getfield 124, 3) := by decide +kernel
theorem dX12_take_55 : decode cX12_take 55 = .ok (.bipush 12, 2) := by decide +kernel
theorem dX12_take_57 : decode cX12_take 57 = .ok (.iload_n 1, 1) := by decide +kernel
theorem dX12_take_58 : decode cX12_take 58 = .ok (.imul, 1) := by decide +kernel
theorem dX12_take_59 : decode cX12_take 59 = .ok (.aload_n 0, 1) := by decide +kernel
theorem dX12_take_60 : decode cX12_take 60 = .ok (.iload_n 1, 1) := by decide +kernel
theorem dX12_take_61 : decode cX12_take 61 = .ok (.iload_n 2, 1) := by decide +kernel
theorem dX12_take_62 : decode cX12_take 62 = .ok (.invokevirtual 252, 3) := by decide +kernel
theorem dX12_take_65 : decode cX12_take 65 = .ok (.iadd, 1) := by decide +kernel
theorem dX12_take_66 : decode cX12_take 66 = .ok (.iaload, 1) := by decide +kernel
theorem dX12_take_67 : decode cX12_take 67 = .ok (.istore_n 3, 1) := by decide +kernel
theorem dX12_take_68 : decode cX12_take 68 = .ok (.aload_n 0, 1) := by decide +kernel
theorem dX12_take_69 : decode cX12_take 69 = .ok (.iload_n 1, 1) := by decide +kernel
theorem dX12_take_70 : decode cX12_take 70 = .ok (.iload_n 2, 1) := by decide +kernel
theorem dX12_take_71 : decode cX12_take 71 = .ok (.invokevirtual 260, 3) := by decide +kernel
theorem dX12_take_74 : decode cX12_take 74 = .ok (.aload_n 0, 1) := by decide +kernel
theorem dX12_take_75 : decode cX12_take 75 = .ok (.iload_n 1, 1) := by decide +kernel
theorem dX12_take_76 : decode cX12_take 76 = .ok (.iload_n 3, 1) := by decide +kernel
theorem dX12_take_77 : decode cX12_take 77 = .ok (.invokevirtual 263, 3) := by decide +kernel
theorem dX12_take_80 : decode cX12_take 80 = .ok (.aload_n 0, 1) := by decide +kernel
theorem dX12_take_81 : decode cX12_take 81 = .ok (.iload_n 1, 1) := by decide +kernel
theorem dX12_take_82 : decode cX12_take 82 = .ok (.iload_n 3, 1) := by decide +kernel
theorem dX12_take_83 : decode cX12_take 83 = .ok (.invokevirtual 266, 3) := by decide +kernel
theorem dX12_take_86 : decode cX12_take 86 = .ok (.goto (-86), 3) := by decide +kernel
theorem dX12_take_89 : decode cX12_take 89 = .ok (.aload_n 0, 1) := by decide +kernel
theorem dX12_take_90 : decode cX12_take 90 = .ok (.getfield 118, 3) := by decide +kernel
theorem dX12_take_93 : decode cX12_take 93 = .ok (.iload_n 1, 1) := by decide +kernel
theorem dX12_take_94 : decode cX12_take 94 = .ok (.iaload, 1) := by decide +kernel
theorem dX12_take_95 : decode cX12_take 95 = .ok (.ifCond .eq 14, 3) := by decide +kernel
theorem dX12_take_98 : decode cX12_take 98 = .ok (.aload_n 0, 1) := by decide +kernel
theorem dX12_take_99 : decode cX12_take 99 = .ok (.getfield 103, 3) := by decide +kernel
theorem dX12_take_102 : decode cX12_take 102 = .ok (.iload_n 1, 1) := by decide +kernel
theorem dX12_take_103 : decode cX12_take 103 = .ok (.iaload, 1) := by decide +kernel
theorem dX12_take_104 : decode cX12_take 104 = .ok (.bipush 100, 2) := by decide +kernel
theorem dX12_take_106 : decode cX12_take 106 = .ok (.if_icmp .ne 4, 3) := by decide +kernel
theorem dX12_take_109 : decode cX12_take 109 = .ok (.return_, 1) := by decide +kernel
theorem dX12_take_110 : decode cX12_take 110 = .ok (.aload_n 0, 1) := by decide +kernel
theorem dX12_take_111 : decode cX12_take 111 = .ok (.iload_n 1, 1) := by decide +kernel
theorem dX12_take_112 : decode cX12_take 112 = .ok (.invokevirtual 248, 3) := by decide +kernel
theorem dX12_take_115 : decode cX12_take 115 = .ok (.ifCond .ne 37, 3) := by decide +kernel
theorem dX12_take_118 : decode cX12_take 118 = .ok (.aload_n 0, 1) := by decide +kernel
theorem dX12_take_119 : decode cX12_take 119 = .ok (.iconst 1, 1) := by decide +kernel
theorem dX12_take_120 : decode cX12_take 120 = .ok (.iload_n 1, 1) := by decide +kernel
theorem dX12_take_121 : decode cX12_take 121 = .ok (.aload_n 0, 1) := by decide +kernel
theorem dX12_take_122 : decode cX12_take 122 = .ok (.iload_n 1, 1) := by decide +kernel
theorem dX12_take_123 : decode cX12_take 123 = .ok (.invokevirtual 269, 3) := by decide +kernel
theorem dX12_take_126 : decode cX12_take 126 = .ok (.aload_n 0, 1) := by decide +kernel
theorem dX12_take_127 : decode cX12_take 127 = .ok (.getfield 88, 3) := by decide +kernel
theorem dX12_take_130 : decode cX12_take 130 = .ok (.iload_n 1, 1) := by decide +kernel
theorem dX12_take_131 : decode cX12_take 131 = .ok (.iaload, 1) := by decide +kernel
theorem dX12_take_132 : decode cX12_take 132 = .ok (.aload_n 0, 1) := by decide +kernel
theorem dX12_take_133 : decode cX12_take 133 = .ok (.getfield 91, 3) := by decide +kernel
theorem dX12_take_136 : decode cX12_take 136 = .ok (.iload_n 1, 1) := by decide +kernel
theorem dX12_take_137 : decode cX12_take 137 = .ok (.iaload, 1) := by decide +kernel
theorem dX12_take_138 : decode cX12_take 138 = .ok (.aload_n 0, 1) := by decide +kernel
theorem dX12_take_139 : decode cX12_take 139 = .ok (.getfield 103, 3) := by decide +kernel
theorem dX12_take_142 : decode cX12_take 142 = .ok (.iload_n 1, 1) := by decide +kernel
theorem dX12_take_143 : decode cX12_take 143 = .ok (.iaload, 1) := by decide +kernel
theorem dX12_take_144 : decode cX12_take 144 = .ok (.iconst 1, 1) := by decide +kernel
theorem dX12_take_145 : decode cX12_take 145 = .ok (.iadd, 1) := by decide +kernel
theorem dX12_take_146 : decode cX12_take 146 = .ok (.iconst 0, 1) := by decide +kernel
theorem dX12_take_147 : decode cX12_take 147 = .ok (.invokevirtual 241, 3) := by decide +kernel
theorem dX12_take_150 : decode cX12_take 150 = .ok (.pop, 1) := by decide +kernel
theorem dX12_take_151 : decode cX12_take 151 = .ok (.return_, 1) := by decide +kernel
theorem dX12_take_152 : decode cX12_take 152 = .ok (.aload_n 0, 1) := by decide +kernel
theorem dX12_take_153 : decode cX12_take 153 = .ok (.iload_n 1, 1) := by decide +kernel
theorem dX12_take_154 : decode cX12_take 154 = .ok (.iconst 0, 1) := by decide +kernel
theorem dX12_take_155 : decode cX12_take 155 = .ok (.invokevirtual 263, 3) := by decide +kernel
theorem dX12_take_158 : decode cX12_take 158 = .ok (.aload_n 0, 1) := by decide +kernel
theorem dX12_take_159 : decode cX12_take 159 = .ok (.getfield 94, 3) := by decide +kernel
theorem dX12_take_162 : decode cX12_take 162 = .ok (.iload_n 1, 1) := by decide +kernel
theorem dX12_take_163 : decode cX12_take 163 = .ok (.iconst 1, 1) := by decide +kernel
theorem dX12_take_164 : decode cX12_take 164 = .ok (.iastore, 1) := by decide +kernel
theorem dX12_take_165 : decode cX12_take 165 = .ok (.aload_n 0, 1) := by decide +kernel
theorem dX12_take_166 : decode cX12_take 166 = .ok (.getfield 127, 3) := by decide +kernel
theorem dX12_take_169 : decode cX12_take 169 = .ok (.iload_n 1, 1) := by decide +kernel
theorem dX12_take_170 : decode cX12_take 170 = .ok (.iconst 0, 1) := by decide +kernel
theorem dX12_take_171 : decode cX12_take 171 = .ok (.iastore, 1) := by decide +kernel
theorem dX12_take_172 : decode cX12_take 172 = .ok (.aload_n 0, 1) := by decide +kernel
theorem dX12_take_173 : decode cX12_take 173 = .ok (.iconst 3, 1) := by decide +kernel
theorem dX12_take_174 : decode cX12_take 174 = .ok (.iload_n 1, 1) := by decide +kernel
theorem dX12_take_175 : decode cX12_take 175 = .ok (.aload_n 0, 1) := by decide +kernel
theorem dX12_take_176 : decode cX12_take 176 = .ok (.getfield 103, 3) := by decide +kernel
theorem dX12_take_179 : decode cX12_take 179 = .ok (.iload_n 1, 1) := by decide +kernel
theorem dX12_take_180 : decode cX12_take 180 = .ok (.iaload, 1) := by decide +kernel
theorem dX12_take_181 : decode cX12_take 181 = .ok (.invokevirtual 273, 3) := by decide +kernel
theorem dX12_take_184 : decode cX12_take 184 = .ok (.return_, 1) := by decide +kernel
theorem dX12_tellTurned_0 : decode cX12_tellTurned 0 = .ok (.aload_n 0, 1) := by decide +kernel
theorem dX12_tellTurned_1 : decode cX12_tellTurned 1 = .ok (.aload_n 0, 1) := by decide +kernel
theorem dX12_tellTurned_2 : decode cX12_tellTurned 2 = .ok (.bipush 9, 2) := by decide +kernel
theorem dX12_tellTurned_4 : decode cX12_tellTurned 4 = .ok (.iload_n 1, 1) := by decide +kernel
theorem dX12_tellTurned_5 : decode cX12_tellTurned 5 = .ok (.aload_n 0, 1) := by decide +kernel
theorem dX12_tellTurned_6 : decode cX12_tellTurned 6 = .ok (.iload_n 1, 1) := by decide +kernel
theorem dX12_tellTurned_7 : decode cX12_tellTurned 7 = .ok (.invokevirtual 269, 3) := by decide +kernel
theorem dX12_tellTurned_10 : decode cX12_tellTurned 10 = .ok (.aload_n 0, 1) := by decide +kernel
theorem dX12_tellTurned_11 : decode cX12_tellTurned 11 = .ok (.getfield 88, 3) := by decide +kernel
theorem dX12_tellTurned_14 : decode cX12_tellTurned 14 = .ok (.iload_n 1, 1) := by decide +kernel
theorem dX12_tellTurned_15 : decode cX12_tellTurned 15 = .ok (.iaload, 1) := by decide +kernel
theorem dX12_tellTurned_16 : decode cX12_tellTurned 16 = .ok (.aload_n 0, 1) := by decide +kernel
theorem dX12_tellTurned_17 : decode cX12_tellTurned 17 = .ok (.getfield 91, 3) := by decide +kernel
theorem dX12_tellTurned_20 : decode cX12_tellTurned 20 = .ok (.iload_n 1, 1) := by decide +kernel
theorem dX12_tellTurned_21 : decode cX12_tellTurned 21 = .ok (.iaload, 1) := by decide +kernel
theorem dX12_tellTurned_22 : decode cX12_tellTurned 22 = .ok (.iconst 0, 1) := by decide +kernel
theorem dX12_tellTurned_23 : decode cX12_tellTurned 23 = .ok (.iconst 0, 1) := by decide +kernel
theorem dX12_tellTurned_24 : decode cX12_tellTurned 24 = .ok (.invokevirtual 241, 3) := by decide +kernel
theorem dX12_tellTurned_27 : decode cX12_tellTurned 27 = .ok (.iload_n 1, 1) := by decide +kernel
theorem dX12_tellTurned_28 : decode cX12_tellTurned 28 = .ok (.aload_n 0, 1) := by decide +kernel
theorem dX12_tellTurned_29 : decode cX12_tellTurned 29 = .ok (.getfield 103, 3) := by decide +kernel
theorem dX12_tellTurned_32 : decode cX12_tellTurned 32 = .ok (.iload_n 1, 1) := by decide +kernel
theorem dX12_tellTurned_33 : decode cX12_tellTurned 33 = .ok (.iaload, 1) := by decide +kernel
theorem dX12_tellTurned_34 : decode cX12_tellTurned 34 = .ok (.invokevirtual 277, 3) := by decide +kernel
theorem dX12_tellTurned_37 : decode cX12_tellTurned 37 = .ok (.return_, 1) := by decide +kernel
theorem dX12_turn_0 : decode cX12_turn 0 = .ok (.aload_n 0, 1) := by decide +kernel
theorem dX12_turn_1 : decode cX12_turn 1 = .ok (.getfield 88, 3) := by decide +kernel
theorem dX12_turn_4 : decode cX12_turn 4 = .ok (.iload_n 1, 1) := by decide +kernel
theorem dX12_turn_5 : decode cX12_turn 5 = .ok (.iload_n 2, 1) := by decide +kernel
theorem dX12_turn_6 : decode cX12_turn 6 = .ok (.iastore, 1) := by decide +kernel
theorem dX12_turn_7 : decode cX12_turn 7 = .ok (.aload_n 0, 1) := by decide +kernel
theorem dX12_turn_8 : decode cX12_turn 8 = .ok (.getfield 91, 3) := by decide +kernel
theorem dX12_turn_11 : decode cX12_turn 11 = .ok (.iload_n 1, 1) := by decide +kernel
theorem dX12_turn_12 : decode cX12_turn 12 = .ok (.iload_n 3, 1) := by decide +kernel
theorem dX12_turn_13 : decode cX12_turn 13 = .ok (.iastore, 1) := by decide +kernel
theorem dX12_turn_14 : decode cX12_turn 14 = .ok (.aload_n 0, 1) := by decide +kernel
theorem dX12_turn_15 : decode cX12_turn 15 = .ok (.getfield 94, 3) := by decide +kernel
theorem dX12_turn_18 : decode cX12_turn 18 = .ok (.iload_n 1, 1) := by decide +kernel
theorem dX12_turn_19 : decode cX12_turn 19 = .ok (.iconst 2, 1) := by decide +kernel
theorem dX12_turn_20 : decode cX12_turn 20 = .ok (.iastore, 1) := by decide +kernel
theorem dX12_turn_21 : decode cX12_turn 21 = .ok (.aload_n 0, 1) := by decide +kernel
theorem dX12_turn_22 : decode cX12_turn 22 = .ok (.iload_n 1, 1) := by decide +kernel
theorem dX12_turn_23 : decode cX12_turn 23 = .ok (.invokevirtual 280, 3) := by decide +kernel
theorem dX12_turn_26 : decode cX12_turn 26 = .ok (.aload_n 0, 1) := by decide +kernel
theorem dX12_turn_27 : decode cX12_turn 27 = .ok (.getfield 112, 3) := by decide +kernel
theorem dX12_turn_30 : decode cX12_turn 30 = .ok (.iload_n 1, 1) := by decide +kernel
theorem dX12_turn_31 : decode cX12_turn 31 = .ok (.iconst 0, 1) := by decide +kernel
theorem dX12_turn_32 : decode cX12_turn 32 = .ok (.iastore, 1) := by decide +kernel
theorem dX12_turn_33 : decode cX12_turn 33 = .ok (.aload_n 0, 1) := by decide +kernel
theorem dX12_turn_34 : decode cX12_turn 34 = .ok (.bipush 8, 2) := by decide +kernel
theorem dX12_turn_36 : decode cX12_turn 36 = .ok (.iload_n 1, 1) := by decide +kernel
theorem dX12_turn_37 : decode cX12_turn 37 = .ok (.iconst 0, 1) := by decide +kernel
theorem dX12_turn_38 : decode cX12_turn 38 = .ok (.invokevirtual 273, 3) := by decide +kernel
theorem dX12_turn_41 : decode cX12_turn 41 = .ok (.aload_n 0, 1) := by decide +kernel
theorem dX12_turn_42 : decode cX12_turn 42 = .ok (.iload_n 1, 1) := by decide +kernel
theorem dX12_turn_43 : decode cX12_turn 43 = .ok (.invokevirtual 248, 3) := by decide +kernel
theorem dX12_turn_46 : decode cX12_turn 46 = .ok (.ifCond .ne 8, 3) := by decide +kernel
theorem dX12_turn_49 : decode cX12_turn 49 = .ok (.aload_n 0, 1) := by decide +kernel
theorem dX12_turn_50 : decode cX12_turn 50 = .ok (.iload_n 1, 1) := by decide +kernel
theorem dX12_turn_51 : decode cX12_turn 51 = .ok (.invokevirtual 284, 3) := by decide +kernel
theorem dX12_turn_54 : decode cX12_turn 54 = .ok (.return_, 1) := by decide +kernel
theorem dX12_normalOf_0 : decode cX12_normalOf 0 = .ok (.iload_n 2, 1) := by decide +kernel
theorem dX12_normalOf_1 : decode cX12_normalOf 1 = .ok (.iload_n 1, 1) := by decide +kernel
theorem dX12_normalOf_2 : decode cX12_normalOf 2 = .ok (.if_icmp .ne 23, 3) := by decide +kernel
theorem dX12_normalOf_5 : decode cX12_normalOf 5 = .ok (.iload_n 3, 1) := by decide +kernel
theorem dX12_normalOf_6 : decode cX12_normalOf 6 = .ok (.ifCond .eq 12, 3) := by decide +kernel
theorem dX12_normalOf_9 : decode cX12_normalOf 9 = .ok (.aload_n 0, 1) := by decide +kernel
theorem dX12_normalOf_10 : decode cX12_normalOf 10 = .ok (.getfield 100, 3) := by decide +kernel
theorem dX12_normalOf_13 : decode cX12_normalOf 13 = .ok (.iload_n 1, 1) := by decide +kernel
theorem dX12_normalOf_14 : decode cX12_normalOf 14 = .ok (.iaload, 1) := by decide +kernel
theorem dX12_normalOf_15 : decode cX12_normalOf 15 = .ok (.goto 9, 3) := by decide +kernel
theorem dX12_normalOf_18 : decode cX12_normalOf 18 = .ok (.aload_n 0, 1) := by decide +kernel
theorem dX12_normalOf_19 : decode cX12_normalOf 19 = .ok (.getfield 97, 3) := by decide +kernel
theorem dX12_normalOf_22 : decode cX12_normalOf 22 = .ok (.iload_n 1, 1) := by decide +kernel
theorem dX12_normalOf_23 : decode cX12_normalOf 23 = .ok (.iaload, 1) := by decide +kernel
theorem dX12_normalOf_24 : decode cX12_normalOf 24 = .ok (.ireturn, 1) := by decide +kernel
theorem dX12_normalOf_25 : decode cX12_normalOf 25 = .ok (.iload_n 3, 1) := by decide +kernel
theorem dX12_normalOf_26 : decode cX12_normalOf 26 = .ok (.ifCond .eq 17, 3) := by decide +kernel
theorem dX12_normalOf_29 : decode cX12_normalOf 29 = .ok (.aload_n 0, 1) := by decide +kernel
theorem dX12_normalOf_30 : decode cX12_normalOf 30 = .ok (.getfield 142, 3) := by decide +kernel
theorem dX12_normalOf_33 : decode cX12_normalOf 33 = .ok (.bipush 7, 2) := by decide +kernel
theorem dX12_normalOf_35 : decode cX12_normalOf 35 = .ok (.iload_n 1, 1) := by decide +kernel
theorem dX12_normalOf_36 : decode cX12_normalOf 36 = .ok (.imul, 1) := by decide +kernel
theorem dX12_normalOf_37 : decode cX12_normalOf 37 = .ok (.iload_n 2, 1) := by decide +kernel
theorem dX12_normalOf_38 : decode cX12_normalOf 38 = .ok (.iadd, 1) := by decide +kernel
theorem dX12_normalOf_39 : decode cX12_normalOf 39 = .ok (.iaload, 1) := by decide +kernel
theorem dX12_normalOf_40 : decode cX12_normalOf 40 = .ok (.goto 14, 3) := by decide +kernel
theorem dX12_normalOf_43 : decode cX12_normalOf 43 = .ok (.aload_n 0, 1) := by decide +kernel
theorem dX12_normalOf_44 : decode cX12_normalOf 44 = .ok (.getfield 139, 3) := by decide +kernel
theorem dX12_normalOf_47 : decode cX12_normalOf 47 = .ok (.bipush 7, 2) := by decide +kernel
theorem dX12_normalOf_49 : decode cX12_normalOf 49 = .ok (.iload_n 1, 1) := by decide +kernel
theorem dX12_normalOf_50 : decode cX12_normalOf 50 = .ok (.imul, 1) := by decide +kernel
theorem dX12_normalOf_51 : decode cX12_normalOf 51 = .ok (.iload_n 2, 1) := by decide +kernel
theorem dX12_normalOf_52 : decode cX12_normalOf 52 = .ok (.iadd, 1) := by decide +kernel
theorem dX12_normalOf_53 : decode cX12_normalOf 53 = .ok (.iaload, 1) := by decide +kernel
theorem dX12_normalOf_54 : decode cX12_normalOf 54 = .ok (.ireturn, 1) := by decide +kernel
theorem dX12_lengthOf_0 : decode cX12_lengthOf 0 = .ok (.iload_n 2, 1) := by decide +kernel
theorem dX12_lengthOf_1 : decode cX12_lengthOf 1 = .ok (.iload_n 1, 1) := by decide +kernel
theorem dX12_lengthOf_2 : decode cX12_lengthOf 2 = .ok (.if_icmp .ne 12, 3) := by decide +kernel
theorem dX12_lengthOf_5 : decode cX12_lengthOf 5 = .ok (.aload_n 0, 1) := by decide +kernel
theorem dX12_lengthOf_6 : decode cX12_lengthOf 6 = .ok (.getfield 103, 3) := by decide +kernel
theorem dX12_lengthOf_9 : decode cX12_lengthOf 9 = .ok (.iload_n 1, 1) := by decide +kernel
theorem dX12_lengthOf_10 : decode cX12_lengthOf 10 = .ok (.iaload, 1) := by decide +kernel
theorem dX12_lengthOf_11 : decode cX12_lengthOf 11 = .ok (.goto 14, 3) := by decide +kernel
theorem dX12_lengthOf_14 : decode cX12_lengthOf 14 = .ok (.aload_n 0, 1) := by decide +kernel
theorem dX12_lengthOf_15 : decode cX12_lengthOf 15 = .ok (.getfield 148, 3) := by decide +kernel
theorem dX12_lengthOf_18 : decode cX12_lengthOf 18 = .ok (.bipush 7, 2) := by decide +kernel
theorem dX12_lengthOf_20 : decode cX12_lengthOf 20 = .ok (.iload_n 1, 1) := by decide +kernel
theorem dX12_lengthOf_21 : decode cX12_lengthOf 21 = .ok (.imul, 1) := by decide +kernel
theorem dX12_lengthOf_22 : decode cX12_lengthOf 22 = .ok (.iload_n 2, 1) := by decide +kernel
theorem dX12_lengthOf_23 : decode cX12_lengthOf 23 = .ok (.iadd, 1) := by decide +kernel
theorem dX12_lengthOf_24 : decode cX12_lengthOf 24 = .ok (.iaload, 1) := by decide +kernel
theorem dX12_lengthOf_25 : decode cX12_lengthOf 25 = .ok (.ireturn, 1) := by decide +kernel
theorem dX12_entryOf_0 : decode cX12_entryOf 0 = .ok (.iload_n 2, 1) := by decide +kernel
theorem dX12_entryOf_1 : decode cX12_entryOf 1 = .ok (.iload_n 1, 1) := by decide +kernel
theorem dX12_entryOf_2 : decode cX12_entryOf 2 = .ok (.if_icmp .ne 17, 3) := by decide +kernel
theorem dX12_entryOf_5 : decode cX12_entryOf 5 = .ok (.aload_n 0, 1) := by decide +kernel
theorem dX12_entryOf_6 : decode cX12_entryOf 6 = .ok (.getfield 115, 3) := by decide +kernel
theorem dX12_entryOf_9 : decode cX12_entryOf 9 = .ok (.bipush 100, 2) := by decide +kernel
theorem dX12_entryOf_11 : decode cX12_entryOf 11 = .ok (.iload_n 1, 1) := by decide +kernel
theorem dX12_entryOf_12 : decode cX12_entryOf 12 = .ok (.imul, 1) := by decide +kernel
theorem dX12_entryOf_13 : decode cX12_entryOf 13 = .ok (.iload_n 3, 1) := by decide +kernel
theorem dX12_entryOf_14 : decode cX12_entryOf 14 = .ok (.iadd, 1) := by decide +kernel
theorem dX12_entryOf_15 : decode cX12_entryOf 15 = .ok (.iaload, 1) := by decide +kernel
theorem dX12_entryOf_16 : decode cX12_entryOf 16 = .ok (.goto 19, 3) := by decide +kernel
theorem dX12_entryOf_19 : decode cX12_entryOf 19 = .ok (.aload_n 0, 1) := by decide +kernel
theorem dX12_entryOf_20 : decode cX12_entryOf 20 = .ok (.getfield 151, 3) := by decide +kernel
theorem dX12_entryOf_23 : decode cX12_entryOf 23 = .ok (.bipush 100, 2) := by decide +kernel
theorem dX12_entryOf_25 : decode cX12_entryOf 25 = .ok (.bipush 7, 2) := by decide +kernel
theorem dX12_entryOf_27 : decode cX12_entryOf 27 = .ok (.iload_n 1, 1) := by decide +kernel
theorem dX12_entryOf_28 : decode cX12_entryOf 28 = .ok (.imul, 1) := by decide +kernel
theorem dX12_entryOf_29 : decode cX12_entryOf 29 = .ok (.iload_n 2, 1) := by decide +kernel
theorem dX12_entryOf_30 : decode cX12_entryOf 30 = .ok (.iadd, 1) := by decide +kernel
theorem dX12_entryOf_31 : decode cX12_entryOf 31 = .ok (.imul, 1) := by decide +kernel
theorem dX12_entryOf_32 : decode cX12_entryOf 32 = .ok (.iload_n 3, 1) := by decide +kernel
theorem dX12_entryOf_33 : decode cX12_entryOf 33 = .ok (.iadd, 1) := by decide +kernel
theorem dX12_entryOf_34 : decode cX12_entryOf 34 = .ok (.iaload, 1) := by decide +kernel
theorem dX12_entryOf_35 : decode cX12_entryOf 35 = .ok (.ireturn, 1) := by decide +kernel
theorem dX12_isIn_0 : decode cX12_isIn 0 = .ok (.iload_n 2, 1) := by decide +kernel
theorem dX12_isIn_1 : decode cX12_isIn 1 = .ok (.iload_n 1, 1) := by decide +kernel
theorem dX12_isIn_2 : decode cX12_isIn 2 = .ok (.if_icmp .eq 17, 3) := by decide +kernel
theorem dX12_isIn_5 : decode cX12_isIn 5 = .ok (.aload_n 0, 1) := by decide +kernel
theorem dX12_isIn_6 : decode cX12_isIn 6 = .ok (.getfield 136, 3) := by decide +kernel
theorem dX12_isIn_9 : decode cX12_isIn 9 = .ok (.iload_n 1, 1) := by decide +kernel
theorem dX12_isIn_10 : decode cX12_isIn 10 = .ok (.iaload, 1) := by decide +kernel
theorem dX12_isIn_11 : decode cX12_isIn 11 = .ok (.iload_n 2, 1) := by decide +kernel
theorem dX12_isIn_12 : decode cX12_isIn 12 = .ok (.ishr, 1) := by decide +kernel
theorem dX12_isIn_13 : decode cX12_isIn 13 = .ok (.iconst 1, 1) := by decide +kernel
theorem dX12_isIn_14 : decode cX12_isIn 14 = .ok (.iand, 1) := by decide +kernel
theorem dX12_isIn_15 : decode cX12_isIn 15 = .ok (.iconst 1, 1) := by decide +kernel
theorem dX12_isIn_16 : decode cX12_isIn 16 = .ok (.if_icmp .ne 7, 3) := by decide +kernel
theorem dX12_isIn_19 : decode cX12_isIn 19 = .ok (.iconst 1, 1) := by decide +kernel
theorem dX12_isIn_20 : decode cX12_isIn 20 = .ok (.goto 4, 3) := by decide +kernel
theorem dX12_isIn_23 : decode cX12_isIn 23 = .ok (.iconst 0, 1) := by decide +kernel
theorem dX12_isIn_24 : decode cX12_isIn 24 = .ok (.ireturn, 1) := by decide +kernel
theorem dX12_mergedAt_0 : decode cX12_mergedAt 0 = .ok (.aload_n 0, 1) := by decide +kernel
theorem dX12_mergedAt_1 : decode cX12_mergedAt 1 = .ok (.getfield 97, 3) := by decide +kernel
theorem dX12_mergedAt_4 : decode cX12_mergedAt 4 = .ok (.iload_n 1, 1) := by decide +kernel
theorem dX12_mergedAt_5 : decode cX12_mergedAt 5 = .ok (.iaload, 1) := by decide +kernel
theorem dX12_mergedAt_6 : decode cX12_mergedAt 6 = .ok (.iload_n 3, 1) := by decide +kernel
theorem dX12_mergedAt_7 : decode cX12_mergedAt 7 = .ok (.if_icmp .ne 38, 3) := by decide +kernel
theorem dX12_mergedAt_10 : decode cX12_mergedAt 10 = .ok (.aload_n 0, 1) := by decide +kernel
theorem dX12_mergedAt_11 : decode cX12_mergedAt 11 = .ok (.getfield 100, 3) := by decide +kernel
theorem dX12_mergedAt_14 : decode cX12_mergedAt 14 = .ok (.iload_n 1, 1) := by decide +kernel
theorem dX12_mergedAt_15 : decode cX12_mergedAt 15 = .ok (.iaload, 1) := by decide +kernel
theorem dX12_mergedAt_16 : decode cX12_mergedAt 16 = .ok (.iload 4, 2) := by decide +kernel
theorem dX12_mergedAt_18 : decode cX12_mergedAt 18 = .ok (.if_icmp .ne 27, 3) := by decide +kernel
theorem dX12_mergedAt_21 : decode cX12_mergedAt 21 = .ok (.iload_n 2, 1) := by decide +kernel
theorem dX12_mergedAt_22 : decode cX12_mergedAt 22 = .ok (.aload_n 0, 1) := by decide +kernel
theorem dX12_mergedAt_23 : decode cX12_mergedAt 23 = .ok (.getfield 103, 3) := by decide +kernel
theorem dX12_mergedAt_26 : decode cX12_mergedAt 26 = .ok (.iload_n 1, 1) := by decide +kernel
theorem dX12_mergedAt_27 : decode cX12_mergedAt 27 = .ok (.iaload, 1) := by decide +kernel
theorem dX12_mergedAt_28 : decode cX12_mergedAt 28 = .ok (.if_icmp .ge 17, 3) := by decide +kernel
theorem dX12_mergedAt_31 : decode cX12_mergedAt 31 = .ok (.aload_n 0, 1) := by decide +kernel
theorem dX12_mergedAt_32 : decode cX12_mergedAt 32 = .ok (.getfield 115, 3) := by decide +kernel
theorem dX12_mergedAt_35 : decode cX12_mergedAt 35 = .ok (.bipush 100, 2) := by decide +kernel
theorem dX12_mergedAt_37 : decode cX12_mergedAt 37 = .ok (.iload_n 1, 1) := by decide +kernel
theorem dX12_mergedAt_38 : decode cX12_mergedAt 38 = .ok (.imul, 1) := by decide +kernel
theorem dX12_mergedAt_39 : decode cX12_mergedAt 39 = .ok (.iload_n 2, 1) := by decide +kernel
theorem dX12_mergedAt_40 : decode cX12_mergedAt 40 = .ok (.iadd, 1) := by decide +kernel
theorem dX12_mergedAt_41 : decode cX12_mergedAt 41 = .ok (.iaload, 1) := by decide +kernel
theorem dX12_mergedAt_42 : decode cX12_mergedAt 42 = .ok (.goto 4, 3) := by decide +kernel
theorem dX12_mergedAt_45 : decode cX12_mergedAt 45 = .ok (.iconst (-1), 1) := by decide +kernel
theorem dX12_mergedAt_46 : decode cX12_mergedAt 46 = .ok (.istore 5, 2) := by decide +kernel
theorem dX12_mergedAt_48 : decode cX12_mergedAt 48 = .ok (.iconst 0, 1) := by decide +kernel
theorem dX12_mergedAt_49 : decode cX12_mergedAt 49 = .ok (.istore 6, 2) := by decide +kernel
theorem dX12_mergedAt_51 : decode cX12_mergedAt 51 = .ok (.iload 6, 2) := by decide +kernel
theorem dX12_mergedAt_53 : decode cX12_mergedAt 53 = .ok (.aload_n 0, 1) := by decide +kernel
theorem dX12_mergedAt_54 : decode cX12_mergedAt 54 = .ok (.getfield 223, 3) := by decide +kernel
theorem dX12_mergedAt_57 : decode cX12_mergedAt 57 = .ok (.if_icmp .ge 95, 3) := by decide +kernel
theorem dX12_mergedAt_60 : decode cX12_mergedAt 60 = .ok (.aload_n 0, 1) := by decide +kernel
theorem dX12_mergedAt_61 : decode cX12_mergedAt 61 = .ok (.iload_n 1, 1) := by decide +kernel
theorem dX12_mergedAt_62 : decode cX12_mergedAt 62 = .ok (.iload 6, 2) := by decide +kernel
theorem dX12_mergedAt_64 : decode cX12_mergedAt 64 = .ok (.invokevirtual 287, 3) := by decide +kernel
theorem dX12_mergedAt_67 : decode cX12_mergedAt 67 = .ok (.ifCond .eq 79, 3) := by decide +kernel
theorem dX12_mergedAt_70 : decode cX12_mergedAt 70 = .ok (.aload_n 0, 1) := by decide +kernel
theorem dX12_mergedAt_71 : decode cX12_mergedAt 71 = .ok (.iload_n 1, 1) := by decide +kernel
theorem dX12_mergedAt_72 : decode cX12_mergedAt 72 = .ok (.iload 6, 2) := by decide +kernel
theorem dX12_mergedAt_74 : decode cX12_mergedAt 74 = .ok (.iconst 0, 1) := by decide +kernel
theorem dX12_mergedAt_75 : decode cX12_mergedAt 75 = .ok (.invokevirtual 291, 3) := by decide +kernel
theorem dX12_mergedAt_78 : decode cX12_mergedAt 78 = .ok (.iload_n 3, 1) := by decide +kernel
theorem dX12_mergedAt_79 : decode cX12_mergedAt 79 = .ok (.if_icmp .ne 67, 3) := by decide +kernel
theorem dX12_mergedAt_82 : decode cX12_mergedAt 82 = .ok (.aload_n 0, 1) := by decide +kernel
theorem dX12_mergedAt_83 : decode cX12_mergedAt 83 = .ok (.iload_n 1, 1) := by decide +kernel
theorem dX12_mergedAt_84 : decode cX12_mergedAt 84 = .ok (.iload 6, 2) := by decide +kernel
theorem dX12_mergedAt_86 : decode cX12_mergedAt 86 = .ok (.iconst 1, 1) := by decide +kernel
theorem dX12_mergedAt_87 : decode cX12_mergedAt 87 = .ok (.invokevirtual 291, 3) := by decide +kernel
theorem dX12_mergedAt_90 : decode cX12_mergedAt 90 = .ok (.iload 4, 2) := by decide +kernel
theorem dX12_mergedAt_92 : decode cX12_mergedAt 92 = .ok (.if_icmp .ne 54, 3) := by decide +kernel
theorem dX12_mergedAt_95 : decode cX12_mergedAt 95 = .ok (.iload_n 2, 1) := by decide +kernel
theorem dX12_mergedAt_96 : decode cX12_mergedAt 96 = .ok (.aload_n 0, 1) := by decide +kernel
theorem dX12_mergedAt_97 : decode cX12_mergedAt 97 = .ok (.iload_n 1, 1) := by decide +kernel
theorem dX12_mergedAt_98 : decode cX12_mergedAt 98 = .ok (.iload 6, 2) := by decide +kernel
theorem dX12_mergedAt_100 : decode cX12_mergedAt 100 = .ok (.invokevirtual 295, 3) := by decide +kernel
theorem dX12_mergedAt_103 : decode cX12_mergedAt 103 = .ok (.if_icmp .lt 6, 3) := by decide +kernel
theorem dX12_mergedAt_106 : decode cX12_mergedAt 106 = .ok (.goto 40, 3) := by decide +kernel
theorem dX12_mergedAt_109 : decode cX12_mergedAt 109 = .ok (.aload_n 0, 1) := by decide +kernel
theorem dX12_mergedAt_110 : decode cX12_mergedAt 110 = .ok (.iload_n 1, 1) := by decide +kernel
theorem dX12_mergedAt_111 : decode cX12_mergedAt 111 = .ok (.iload 6, 2) := by decide +kernel
theorem dX12_mergedAt_113 : decode cX12_mergedAt 113 = .ok (.iload_n 2, 1) := by decide +kernel
theorem dX12_mergedAt_114 : decode cX12_mergedAt 114 = .ok (.invokevirtual 298, 3) := by decide +kernel
theorem dX12_mergedAt_117 : decode cX12_mergedAt 117 = .ok (.istore 7, 2) := by decide +kernel
theorem dX12_mergedAt_119 : decode cX12_mergedAt 119 = .ok (.iload 7, 2) := by decide +kernel
theorem dX12_mergedAt_121 : decode cX12_mergedAt 121 = .ok (.ifCond .eq 9, 3) := by decide +kernel
theorem dX12_mergedAt_124 : decode cX12_mergedAt 124 = .ok (.iload 5, 2) := by decide +kernel
theorem dX12_mergedAt_126 : decode cX12_mergedAt 126 = .ok (.iconst (-1), 1) := by decide +kernel
theorem dX12_mergedAt_127 : decode cX12_mergedAt 127 = .ok (.if_icmp .ne 8, 3) := by decide +kernel
theorem dX12_mergedAt_130 : decode cX12_mergedAt 130 = .ok (.iload 7, 2) := by decide +kernel
theorem dX12_mergedAt_132 : decode cX12_mergedAt 132 = .ok (.goto 5, 3) := by decide +kernel
theorem dX12_mergedAt_135 : decode cX12_mergedAt 135 = .ok (.iload 5, 2) := by decide +kernel
theorem dX12_mergedAt_137 : decode cX12_mergedAt 137 = .ok (.istore 5, 2) := by decide +kernel
theorem dX12_mergedAt_139 : decode cX12_mergedAt 139 = .ok (.iload 7, 2) := by decide +kernel
theorem dX12_mergedAt_141 : decode cX12_mergedAt 141 = .ok (.ifCond .ne 5, 3) := by decide +kernel
theorem dX12_mergedAt_144 : decode cX12_mergedAt 144 = .ok (.iconst 0, 1) := by decide +kernel
theorem dX12_mergedAt_145 : decode cX12_mergedAt 145 = .ok (.ireturn, 1) := by decide +kernel
theorem dX12_mergedAt_146 : decode cX12_mergedAt 146 = .ok (.iinc 6 1, 3) := by decide +kernel
theorem dX12_mergedAt_149 : decode cX12_mergedAt 149 = .ok (.goto (-98), 3) := by decide +kernel
theorem dX12_mergedAt_152 : decode cX12_mergedAt 152 = .ok (.iload 5, 2) := by decide +kernel
theorem dX12_mergedAt_154 : decode cX12_mergedAt 154 = .ok (.ireturn, 1) := by decide +kernel
theorem dX12_merge_0 : decode cX12_merge 0 = .ok (.aload_n 0, 1) := by decide +kernel
theorem dX12_merge_1 : decode cX12_merge 1 = .ok (.getfield 136, 3) := by decide +kernel
theorem dX12_merge_4 : decode cX12_merge 4 = .ok (.iload_n 1, 1) := by decide +kernel
theorem dX12_merge_5 : decode cX12_merge 5 = .ok (.iaload, 1) := by decide +kernel
theorem dX12_merge_6 : decode cX12_merge 6 = .ok (.invokestatic 302, 3) := by decide +kernel
theorem dX12_merge_9 : decode cX12_merge 9 = .ok (.aload_n 0, 1) := by decide +kernel
theorem dX12_merge_10 : decode cX12_merge 10 = .ok (.getfield 226, 3) := by decide +kernel
theorem dX12_merge_13 : decode cX12_merge 13 = .ok (.if_icmp .ge 4, 3) := by decide +kernel
theorem dX12_merge_16 : decode cX12_merge 16 = .ok (.return_, 1) := by decide +kernel
theorem dX12_merge_17 : decode cX12_merge 17 = .ok (.aload_n 0, 1) := by decide +kernel
theorem dX12_merge_18 : decode cX12_merge 18 = .ok (.getfield 97, 3) := by decide +kernel
theorem dX12_merge_21 : decode cX12_merge 21 = .ok (.iload_n 1, 1) := by decide +kernel
theorem dX12_merge_22 : decode cX12_merge 22 = .ok (.iaload, 1) := by decide +kernel
theorem dX12_merge_23 : decode cX12_merge 23 = .ok (.istore_n 2, 1) := by decide +kernel
theorem dX12_merge_24 : decode cX12_merge 24 = .ok (.aload_n 0, 1) := by decide +kernel
theorem dX12_merge_25 : decode cX12_merge 25 = .ok (.getfield 100, 3) := by decide +kernel
theorem dX12_merge_28 : decode cX12_merge 28 = .ok (.iload_n 1, 1) := by decide +kernel
theorem dX12_merge_29 : decode cX12_merge 29 = .ok (.iaload, 1) := by decide +kernel
theorem dX12_merge_30 : decode cX12_merge 30 = .ok (.istore_n 3, 1) := by decide +kernel
theorem dX12_merge_31 : decode cX12_merge 31 = .ok (.iconst 0, 1) := by decide +kernel
theorem dX12_merge_32 : decode cX12_merge 32 = .ok (.istore 4, 2) := by decide +kernel
theorem dX12_merge_34 : decode cX12_merge 34 = .ok (.iload 4, 2) := by decide +kernel
theorem dX12_merge_36 : decode cX12_merge 36 = .ok (.aload_n 0, 1) := by decide +kernel
theorem dX12_merge_37 : decode cX12_merge 37 = .ok (.getfield 223, 3) := by decide +kernel
theorem dX12_merge_40 : decode cX12_merge 40 = .ok (.if_icmp .ge 69, 3) := by decide +kernel
theorem dX12_merge_43 : decode cX12_merge 43 = .ok (.aload_n 0, 1) := by decide +kernel
theorem dX12_merge_44 : decode cX12_merge 44 = .ok (.iload_n 1, 1) := by decide +kernel
theorem dX12_merge_45 : decode cX12_merge 45 = .ok (.iload 4, 2) := by decide +kernel
theorem dX12_merge_47 : decode cX12_merge 47 = .ok (.invokevirtual 287, 3) := by decide +kernel
theorem dX12_merge_50 : decode cX12_merge 50 = .ok (.ifCond .ne 6, 3) := by decide +kernel
theorem dX12_merge_53 : decode cX12_merge 53 = .ok (.goto 50, 3) := by decide +kernel
theorem dX12_merge_56 : decode cX12_merge 56 = .ok (.aload_n 0, 1) := by decide +kernel
theorem dX12_merge_57 : decode cX12_merge 57 = .ok (.iload_n 1, 1) := by decide +kernel
theorem dX12_merge_58 : decode cX12_merge 58 = .ok (.iload 4, 2) := by decide +kernel
theorem dX12_merge_60 : decode cX12_merge 60 = .ok (.iconst 0, 1) := by decide +kernel
theorem dX12_merge_61 : decode cX12_merge 61 = .ok (.invokevirtual 291, 3) := by decide +kernel
theorem dX12_merge_64 : decode cX12_merge 64 = .ok (.istore 5, 2) := by decide +kernel
theorem dX12_merge_66 : decode cX12_merge 66 = .ok (.aload_n 0, 1) := by decide +kernel
theorem dX12_merge_67 : decode cX12_merge 67 = .ok (.iload_n 1, 1) := by decide +kernel
theorem dX12_merge_68 : decode cX12_merge 68 = .ok (.iload 4, 2) := by decide +kernel
theorem dX12_merge_70 : decode cX12_merge 70 = .ok (.iconst 1, 1) := by decide +kernel
theorem dX12_merge_71 : decode cX12_merge 71 = .ok (.invokevirtual 291, 3) := by decide +kernel
theorem dX12_merge_74 : decode cX12_merge 74 = .ok (.istore 6, 2) := by decide +kernel
theorem dX12_merge_76 : decode cX12_merge 76 = .ok (.iload 6, 2) := by decide +kernel
theorem dX12_merge_78 : decode cX12_merge 78 = .ok (.iload_n 3, 1) := by decide +kernel
theorem dX12_merge_79 : decode cX12_merge 79 = .ok (.if_icmp .lt 24, 3) := by decide +kernel
theorem dX12_merge_82 : decode cX12_merge 82 = .ok (.iload 6, 2) := by decide +kernel
theorem dX12_merge_84 : decode cX12_merge 84 = .ok (.iload_n 3, 1) := by decide +kernel
theorem dX12_merge_85 : decode cX12_merge 85 = .ok (.if_icmp .ne 12, 3) := by decide +kernel
theorem dX12_merge_88 : decode cX12_merge 88 = .ok (.iload 5, 2) := by decide +kernel
theorem dX12_merge_90 : decode cX12_merge 90 = .ok (.iload_n 2, 1) := by decide +kernel
theorem dX12_merge_91 : decode cX12_merge 91 = .ok (.if_icmp .gt 6, 3) := by decide +kernel
theorem dX12_merge_94 : decode cX12_merge 94 = .ok (.goto 9, 3) := by decide +kernel
theorem dX12_merge_97 : decode cX12_merge 97 = .ok (.iload 5, 2) := by decide +kernel
theorem dX12_merge_99 : decode cX12_merge 99 = .ok (.istore_n 2, 1) := by decide +kernel
theorem dX12_merge_100 : decode cX12_merge 100 = .ok (.iload 6, 2) := by decide +kernel
theorem dX12_merge_102 : decode cX12_merge 102 = .ok (.istore_n 3, 1) := by decide +kernel
theorem dX12_merge_103 : decode cX12_merge 103 = .ok (.iinc 4 1, 3) := by decide +kernel
theorem dX12_merge_106 : decode cX12_merge 106 = .ok (.goto (-72), 3) := by decide +kernel
theorem dX12_merge_109 : decode cX12_merge 109 = .ok (.iconst 0, 1) := by decide +kernel
theorem dX12_merge_110 : decode cX12_merge 110 = .ok (.istore 4, 2) := by decide +kernel
theorem dX12_merge_112 : decode cX12_merge 112 = .ok (.iconst (-1), 1) := by decide +kernel
theorem dX12_merge_113 : decode cX12_merge 113 = .ok (.istore 5, 2) := by decide +kernel
theorem dX12_merge_115 : decode cX12_merge 115 = .ok (.iconst 0, 1) := by decide +kernel
theorem dX12_merge_116 : decode cX12_merge 116 = .ok (.istore 6, 2) := by decide +kernel
theorem dX12_merge_118 : decode cX12_merge 118 = .ok (.iload 6, 2) := by decide +kernel
theorem dX12_merge_120 : decode cX12_merge 120 = .ok (.aload_n 0, 1) := by decide +kernel
theorem dX12_merge_121 : decode cX12_merge 121 = .ok (.getfield 223, 3) := by decide +kernel
theorem dX12_merge_124 : decode cX12_merge 124 = .ok (.if_icmp .ge 82, 3) := by decide +kernel
theorem dX12_merge_127 : decode cX12_merge 127 = .ok (.aload_n 0, 1) := by decide +kernel
theorem dX12_merge_128 : decode cX12_merge 128 = .ok (.iload_n 1, 1) := by decide +kernel
theorem dX12_merge_129 : decode cX12_merge 129 = .ok (.iload 6, 2) := by decide +kernel
theorem dX12_merge_131 : decode cX12_merge 131 = .ok (.invokevirtual 287, 3) := by decide +kernel
theorem dX12_merge_134 : decode cX12_merge 134 = .ok (.ifCond .eq 66, 3) := by decide +kernel
theorem dX12_merge_137 : decode cX12_merge 137 = .ok (.aload_n 0, 1) := by decide +kernel
theorem dX12_merge_138 : decode cX12_merge 138 = .ok (.iload_n 1, 1) := by decide +kernel
theorem dX12_merge_139 : decode cX12_merge 139 = .ok (.iload 6, 2) := by decide +kernel
theorem dX12_merge_141 : decode cX12_merge 141 = .ok (.iconst 0, 1) := by decide +kernel
theorem dX12_merge_142 : decode cX12_merge 142 = .ok (.invokevirtual 291, 3) := by decide +kernel
theorem dX12_merge_145 : decode cX12_merge 145 = .ok (.iload_n 2, 1) := by decide +kernel
theorem dX12_merge_146 : decode cX12_merge 146 = .ok (.if_icmp .ne 54, 3) := by decide +kernel
theorem dX12_merge_149 : decode cX12_merge 149 = .ok (.aload_n 0, 1) := by decide +kernel
theorem dX12_merge_150 : decode cX12_merge 150 = .ok (.iload_n 1, 1) := by decide +kernel
theorem dX12_merge_151 : decode cX12_merge 151 = .ok (.iload 6, 2) := by decide +kernel
theorem dX12_merge_153 : decode cX12_merge 153 = .ok (.iconst 1, 1) := by decide +kernel
theorem dX12_merge_154 : decode cX12_merge 154 = .ok (.invokevirtual 291, 3) := by decide +kernel
theorem dX12_merge_157 : decode cX12_merge 157 = .ok (.iload_n 3, 1) := by decide +kernel
theorem dX12_merge_158 : decode cX12_merge 158 = .ok (.if_icmp .eq 6, 3) := by decide +kernel
theorem dX12_merge_161 : decode cX12_merge 161 = .ok (.goto 39, 3) := by decide +kernel
theorem dX12_merge_164 : decode cX12_merge 164 = .ok (.aload_n 0, 1) := by decide +kernel
theorem dX12_merge_165 : decode cX12_merge 165 = .ok (.iload_n 1, 1) := by decide +kernel
theorem dX12_merge_166 : decode cX12_merge 166 = .ok (.iload 6, 2) := by decide +kernel
theorem dX12_merge_168 : decode cX12_merge 168 = .ok (.invokevirtual 295, 3) := by decide +kernel
theorem dX12_merge_171 : decode cX12_merge 171 = .ok (.iload 4, 2) := by decide +kernel
theorem dX12_merge_173 : decode cX12_merge 173 = .ok (.if_icmp .le 13, 3) := by decide +kernel
theorem dX12_merge_176 : decode cX12_merge 176 = .ok (.aload_n 0, 1) := by decide +kernel
theorem dX12_merge_177 : decode cX12_merge 177 = .ok (.iload_n 1, 1) := by decide +kernel
theorem dX12_merge_178 : decode cX12_merge 178 = .ok (.iload 6, 2) := by decide +kernel
theorem dX12_merge_180 : decode cX12_merge 180 = .ok (.invokevirtual 295, 3) := by decide +kernel
theorem dX12_merge_183 : decode cX12_merge 183 = .ok (.goto 5, 3) := by decide +kernel
theorem dX12_merge_186 : decode cX12_merge 186 = .ok (.iload 4, 2) := by decide +kernel
theorem dX12_merge_188 : decode cX12_merge 188 = .ok (.istore 4, 2) := by decide +kernel
theorem dX12_merge_190 : decode cX12_merge 190 = .ok (.iload 5, 2) := by decide +kernel
theorem dX12_merge_192 : decode cX12_merge 192 = .ok (.iconst (-1), 1) := by decide +kernel
theorem dX12_merge_193 : decode cX12_merge 193 = .ok (.if_icmp .ne 7, 3) := by decide +kernel
theorem dX12_merge_196 : decode cX12_merge 196 = .ok (.iload 6, 2) := by decide +kernel
theorem dX12_merge_198 : decode cX12_merge 198 = .ok (.istore 5, 2) := by decide +kernel
theorem dX12_merge_200 : decode cX12_merge 200 = .ok (.iinc 6 1, 3) := by decide +kernel
theorem dX12_merge_203 : decode cX12_merge 203 = .ok (.goto (-85), 3) := by decide +kernel
theorem dX12_merge_206 : decode cX12_merge 206 = .ok (.aload_n 0, 1) := by decide +kernel
theorem dX12_merge_207 : decode cX12_merge 207 = .ok (.getfield 97, 3) := by decide +kernel
theorem dX12_merge_210 : decode cX12_merge 210 = .ok (.iload_n 1, 1) := by decide +kernel
theorem dX12_merge_211 : decode cX12_merge 211 = .ok (.iaload, 1) := by decide +kernel
theorem dX12_merge_212 : decode cX12_merge 212 = .ok (.iload_n 2, 1) := by decide +kernel
theorem dX12_merge_213 : decode cX12_merge 213 = .ok (.if_icmp .ne 16, 3) := by decide +kernel
theorem dX12_merge_216 : decode cX12_merge 216 = .ok (.aload_n 0, 1) := by decide +kernel
theorem dX12_merge_217 : decode cX12_merge 217 = .ok (.getfield 100, 3) := by decide +kernel
theorem dX12_merge_220 : decode cX12_merge 220 = .ok (.iload_n 1, 1) := by decide +kernel
theorem dX12_merge_221 : decode cX12_merge 221 = .ok (.iaload, 1) := by decide +kernel
theorem dX12_merge_222 : decode cX12_merge 222 = .ok (.iload_n 3, 1) := by decide +kernel
theorem dX12_merge_223 : decode cX12_merge 223 = .ok (.if_icmp .ne 6, 3) := by decide +kernel
theorem dX12_merge_226 : decode cX12_merge 226 = .ok (.iload_n 1, 1) := by decide +kernel
theorem dX12_merge_227 : decode cX12_merge 227 = .ok (.istore 5, 2) := by decide +kernel
theorem dX12_merge_229 : decode cX12_merge 229 = .ok (.iload 5, 2) := by decide +kernel
theorem dX12_merge_231 : decode cX12_merge 231 = .ok (.iload_n 1, 1) := by decide +kernel
theorem dX12_merge_232 : decode cX12_merge 232 = .ok (.if_icmp .ne 12, 3) := by decide +kernel
theorem dX12_merge_235 : decode cX12_merge 235 = .ok (.aload_n 0, 1) := by decide +kernel
theorem dX12_merge_236 : decode cX12_merge 236 = .ok (.getfield 106, 3) := by decide +kernel
theorem dX12_merge_239 : decode cX12_merge 239 = .ok (.iload_n 1, 1) := by decide +kernel
theorem dX12_merge_240 : decode cX12_merge 240 = .ok (.iaload, 1) := by decide +kernel
theorem dX12_merge_241 : decode cX12_merge 241 = .ok (.goto 15, 3) := by decide +kernel
theorem dX12_merge_244 : decode cX12_merge 244 = .ok (.aload_n 0, 1) := by decide +kernel
theorem dX12_merge_245 : decode cX12_merge 245 = .ok (.getfield 145, 3) := by decide +kernel
theorem dX12_merge_248 : decode cX12_merge 248 = .ok (.bipush 7, 2) := by decide +kernel
theorem dX12_merge_250 : decode cX12_merge 250 = .ok (.iload_n 1, 1) := by decide +kernel
theorem dX12_merge_251 : decode cX12_merge 251 = .ok (.imul, 1) := by decide +kernel
theorem dX12_merge_252 : decode cX12_merge 252 = .ok (.iload 5, 2) := by decide +kernel
theorem dX12_merge_254 : decode cX12_merge 254 = .ok (.iadd, 1) := by decide +kernel
theorem dX12_merge_255 : decode cX12_merge 255 = .ok (.iaload, 1) := by decide +kernel
theorem dX12_merge_256 : decode cX12_merge 256 = .ok (.istore 6, 2) := by decide +kernel
theorem dX12_merge_258 : decode cX12_merge 258 = .ok (.iconst 0, 1) := by decide +kernel
theorem dX12_merge_259 : decode cX12_merge 259 = .ok (.istore 7, 2) := by decide +kernel
theorem dX12_merge_261 : decode cX12_merge 261 = .ok (.iload 7, 2) := by decide +kernel
theorem dX12_merge_263 : decode cX12_merge 263 = .ok (.iload 4, 2) := by decide +kernel
theorem dX12_merge_265 : decode cX12_merge 265 = .ok (.if_icmp .ge 25, 3) := by decide +kernel
theorem dX12_merge_268 : decode cX12_merge 268 = .ok (.aload_n 0, 1) := by decide +kernel
theorem dX12_merge_269 : decode cX12_merge 269 = .ok (.getfield 154, 3) := by decide +kernel
theorem dX12_merge_272 : decode cX12_merge 272 = .ok (.iload 7, 2) := by decide +kernel
theorem dX12_merge_274 : decode cX12_merge 274 = .ok (.aload_n 0, 1) := by decide +kernel
theorem dX12_merge_275 : decode cX12_merge 275 = .ok (.iload_n 1, 1) := by decide +kernel
theorem dX12_merge_276 : decode cX12_merge 276 = .ok (.iload 7, 2) := by decide +kernel
theorem dX12_merge_278 : decode cX12_merge 278 = .ok (.iload_n 2, 1) := by decide +kernel
theorem dX12_merge_279 : decode cX12_merge 279 = .ok (.iload_n 3, 1) := by decide +kernel
theorem dX12_merge_280 : decode cX12_merge 280 = .ok (.invokevirtual 305, 3) := by decide +kernel
theorem dX12_merge_283 : decode cX12_merge 283 = .ok (.iastore, 1) := by decide +kernel
theorem dX12_merge_284 : decode cX12_merge 284 = .ok (.iinc 7 1, 3) := by decide +kernel
theorem dX12_merge_287 : decode cX12_merge 287 = .ok (.goto (-26), 3) := by decide +kernel
theorem dX12_merge_290 : decode cX12_merge 290 = .ok (.iconst 0, 1) := by decide +kernel
theorem dX12_merge_291 : decode cX12_merge 291 = .ok (.istore 7, 2) := by decide +kernel
theorem dX12_merge_293 : decode cX12_merge 293 = .ok (.iload 7, 2) := by decide +kernel
theorem dX12_merge_295 : decode cX12_merge 295 = .ok (.iload 4, 2) := by decide +kernel
theorem dX12_merge_297 : decode cX12_merge 297 = .ok (.if_icmp .ge 28, 3) := by decide +kernel
theorem dX12_merge_300 : decode cX12_merge 300 = .ok (.aload_n 0, 1) := by decide +kernel
theorem dX12_merge_301 : decode cX12_merge 301 = .ok (.getfield 115, 3) := by decide +kernel
theorem dX12_merge_304 : decode cX12_merge 304 = .ok (.bipush 100, 2) := by decide +kernel
theorem dX12_merge_306 : decode cX12_merge 306 = .ok (.iload_n 1, 1) := by decide +kernel
theorem dX12_merge_307 : decode cX12_merge 307 = .ok (.imul, 1) := by decide +kernel
theorem dX12_merge_308 : decode cX12_merge 308 = .ok (.iload 7, 2) := by decide +kernel
theorem dX12_merge_310 : decode cX12_merge 310 = .ok (.iadd, 1) := by decide +kernel
theorem dX12_merge_311 : decode cX12_merge 311 = .ok (.aload_n 0, 1) := by decide +kernel
theorem dX12_merge_312 : decode cX12_merge 312 = .ok (.getfield 154, 3) := by decide +kernel
theorem dX12_merge_315 : decode cX12_merge 315 = .ok (.iload 7, 2) := by decide +kernel
theorem dX12_merge_317 : decode cX12_merge 317 = .ok (.iaload, 1) := by decide +kernel
theorem dX12_merge_318 : decode cX12_merge 318 = .ok (.iastore, 1) := by decide +kernel
theorem dX12_merge_319 : decode cX12_merge 319 = .ok (.iinc 7 1, 3) := by decide +kernel
theorem dX12_merge_322 : decode cX12_merge 322 = .ok (.goto (-29), 3) := by decide +kernel
theorem dX12_merge_325 : decode cX12_merge 325 = .ok (.aload_n 0, 1) := by decide +kernel
theorem dX12_merge_326 : decode cX12_merge 326 = .ok (.getfield 103, 3) := by decide +kernel
theorem dX12_merge_329 : decode cX12_merge 329 = .ok (.iload_n 1, 1) := by decide +kernel
theorem dX12_merge_330 : decode cX12_merge 330 = .ok (.iload 4, 2) := by decide +kernel
theorem dX12_merge_332 : decode cX12_merge 332 = .ok (.iastore, 1) := by decide +kernel
theorem dX12_merge_333 : decode cX12_merge 333 = .ok (.aload_n 0, 1) := by decide +kernel
theorem dX12_merge_334 : decode cX12_merge 334 = .ok (.getfield 106, 3) := by decide +kernel
theorem dX12_merge_337 : decode cX12_merge 337 = .ok (.iload_n 1, 1) := by decide +kernel
theorem dX12_merge_338 : decode cX12_merge 338 = .ok (.iload_n 3, 1) := by decide +kernel
theorem dX12_merge_339 : decode cX12_merge 339 = .ok (.aload_n 0, 1) := by decide +kernel
theorem dX12_merge_340 : decode cX12_merge 340 = .ok (.getfield 91, 3) := by decide +kernel
theorem dX12_merge_343 : decode cX12_merge 343 = .ok (.iload_n 1, 1) := by decide +kernel
theorem dX12_merge_344 : decode cX12_merge 344 = .ok (.iaload, 1) := by decide +kernel
theorem dX12_merge_345 : decode cX12_merge 345 = .ok (.if_icmp .ne 8, 3) := by decide +kernel
theorem dX12_merge_348 : decode cX12_merge 348 = .ok (.iload 6, 2) := by decide +kernel
theorem dX12_merge_350 : decode cX12_merge 350 = .ok (.goto 5, 3) := by decide +kernel
theorem dX12_merge_353 : decode cX12_merge 353 = .ok (.iload 4, 2) := by decide +kernel
theorem dX12_merge_355 : decode cX12_merge 355 = .ok (.iastore, 1) := by decide +kernel
theorem dX12_merge_356 : decode cX12_merge 356 = .ok (.aload_n 0, 1) := by decide +kernel
theorem dX12_merge_357 : decode cX12_merge 357 = .ok (.iload_n 1, 1) := by decide +kernel
theorem dX12_merge_358 : decode cX12_merge 358 = .ok (.invokevirtual 309, 3) := by decide +kernel
theorem dX12_merge_361 : decode cX12_merge 361 = .ok (.iconst 0, 1) := by decide +kernel
theorem dX12_merge_362 : decode cX12_merge 362 = .ok (.istore 7, 2) := by decide +kernel
theorem dX12_merge_364 : decode cX12_merge 364 = .ok (.iload 7, 2) := by decide +kernel
theorem dX12_merge_366 : decode cX12_merge 366 = .ok (.aload_n 0, 1) := by decide +kernel
theorem dX12_merge_367 : decode cX12_merge 367 = .ok (.getfield 223, 3) := by decide +kernel
theorem dX12_merge_370 : decode cX12_merge 370 = .ok (.if_icmp .ge 45, 3) := by decide +kernel
theorem dX12_merge_373 : decode cX12_merge 373 = .ok (.iload 7, 2) := by decide +kernel
theorem dX12_merge_375 : decode cX12_merge 375 = .ok (.iload_n 1, 1) := by decide +kernel
theorem dX12_merge_376 : decode cX12_merge 376 = .ok (.if_icmp .eq 33, 3) := by decide +kernel
theorem dX12_merge_379 : decode cX12_merge 379 = .ok (.aload_n 0, 1) := by decide +kernel
theorem dX12_merge_380 : decode cX12_merge 380 = .ok (.aload_n 0, 1) := by decide +kernel
theorem dX12_merge_381 : decode cX12_merge 381 = .ok (.bipush 10, 2) := by decide +kernel
theorem dX12_merge_383 : decode cX12_merge 383 = .ok (.iload_n 1, 1) := by decide +kernel
theorem dX12_merge_384 : decode cX12_merge 384 = .ok (.iload 7, 2) := by decide +kernel
theorem dX12_merge_386 : decode cX12_merge 386 = .ok (.aload_n 0, 1) := by decide +kernel
theorem dX12_merge_387 : decode cX12_merge 387 = .ok (.getfield 88, 3) := by decide +kernel
theorem dX12_merge_390 : decode cX12_merge 390 = .ok (.iload_n 1, 1) := by decide +kernel
theorem dX12_merge_391 : decode cX12_merge 391 = .ok (.iaload, 1) := by decide +kernel
theorem dX12_merge_392 : decode cX12_merge 392 = .ok (.aload_n 0, 1) := by decide +kernel
theorem dX12_merge_393 : decode cX12_merge 393 = .ok (.getfield 91, 3) := by decide +kernel
theorem dX12_merge_396 : decode cX12_merge 396 = .ok (.iload_n 1, 1) := by decide +kernel
theorem dX12_merge_397 : decode cX12_merge 397 = .ok (.iaload, 1) := by decide +kernel
theorem dX12_merge_398 : decode cX12_merge 398 = .ok (.iconst 0, 1) := by decide +kernel
theorem dX12_merge_399 : decode cX12_merge 399 = .ok (.iconst 0, 1) := by decide +kernel
theorem dX12_merge_400 : decode cX12_merge 400 = .ok (.invokevirtual 241, 3) := by decide +kernel
theorem dX12_merge_403 : decode cX12_merge 403 = .ok (.iload_n 1, 1) := by decide +kernel
theorem dX12_merge_404 : decode cX12_merge 404 = .ok (.iload 4, 2) := by decide +kernel
theorem dX12_merge_406 : decode cX12_merge 406 = .ok (.invokevirtual 277, 3) := by decide +kernel
theorem dX12_merge_409 : decode cX12_merge 409 = .ok (.iinc 7 1, 3) := by decide +kernel
theorem dX12_merge_412 : decode cX12_merge 412 = .ok (.goto (-48), 3) := by decide +kernel
theorem dX12_merge_415 : decode cX12_merge 415 = .ok (.return_, 1) := by decide +kernel
theorem dX12_settle_0 : decode cX12_settle 0 = .ok (.aload_n 0, 1) := by decide +kernel
theorem dX12_settle_1 : decode cX12_settle 1 = .ok (.getfield 94, 3) := by decide +kernel
theorem dX12_settle_4 : decode cX12_settle 4 = .ok (.iload_n 1, 1) := by decide +kernel
theorem dX12_settle_5 : decode cX12_settle 5 = .ok (.iconst 0, 1) := by decide +kernel
theorem dX12_settle_6 : decode cX12_settle 6 = .ok (.iastore, 1) := by decide +kernel
theorem dX12_settle_7 : decode cX12_settle 7 = .ok (.aload_n 0, 1) := by decide +kernel
theorem dX12_settle_8 : decode cX12_settle 8 = .ok (.getfield 97, 3) := by decide +kernel
theorem dX12_settle_11 : decode cX12_settle 11 = .ok (.iload_n 1, 1) := by decide +kernel
theorem dX12_settle_12 : decode cX12_settle 12 = .ok (.aload_n 0, 1) := by decide +kernel
theorem dX12_settle_13 : decode cX12_settle 13 = .ok (.getfield 88, 3) := by decide +kernel
theorem dX12_settle_16 : decode cX12_settle 16 = .ok (.iload_n 1, 1) := by decide +kernel
theorem dX12_settle_17 : decode cX12_settle 17 = .ok (.iaload, 1) := by decide +kernel
theorem dX12_settle_18 : decode cX12_settle 18 = .ok (.iastore, 1) := by decide +kernel
theorem dX12_settle_19 : decode cX12_settle 19 = .ok (.aload_n 0, 1) := by decide +kernel
theorem dX12_settle_20 : decode cX12_settle 20 = .ok (.getfield 100, 3) := by decide +kernel
theorem dX12_settle_23 : decode cX12_settle 23 = .ok (.iload_n 1, 1) := by decide +kernel
theorem dX12_settle_24 : decode cX12_settle 24 = .ok (.aload_n 0, 1) := by decide +kernel
theorem dX12_settle_25 : decode cX12_settle 25 = .ok (.getfield 91, 3) := by decide +kernel
theorem dX12_settle_28 : decode cX12_settle 28 = .ok (.iload_n 1, 1) := by decide +kernel
theorem dX12_settle_29 : decode cX12_settle 29 = .ok (.iaload, 1) := by decide +kernel
theorem dX12_settle_30 : decode cX12_settle 30 = .ok (.iastore, 1) := by decide +kernel
theorem dX12_settle_31 : decode cX12_settle 31 = .ok (.aload_n 0, 1) := by decide +kernel
theorem dX12_settle_32 : decode cX12_settle 32 = .ok (.iload_n 1, 1) := by decide +kernel
theorem dX12_settle_33 : decode cX12_settle 33 = .ok (.invokevirtual 280, 3) := by decide +kernel
theorem dX12_settle_36 : decode cX12_settle 36 = .ok (.aload_n 0, 1) := by decide +kernel
theorem dX12_settle_37 : decode cX12_settle 37 = .ok (.getfield 112, 3) := by decide +kernel
theorem dX12_settle_40 : decode cX12_settle 40 = .ok (.iload_n 1, 1) := by decide +kernel
theorem dX12_settle_41 : decode cX12_settle 41 = .ok (.iconst 0, 1) := by decide +kernel
theorem dX12_settle_42 : decode cX12_settle 42 = .ok (.iastore, 1) := by decide +kernel
theorem dX12_settle_43 : decode cX12_settle 43 = .ok (.return_, 1) := by decide +kernel
theorem dX12_isBehind_0 : decode cX12_isBehind 0 = .ok (.iload_n 0, 1) := by decide +kernel
theorem dX12_isBehind_1 : decode cX12_isBehind 1 = .ok (.iload_n 2, 1) := by decide +kernel
theorem dX12_isBehind_2 : decode cX12_isBehind 2 = .ok (.if_icmp .lt 8, 3) := by decide +kernel
theorem dX12_isBehind_5 : decode cX12_isBehind 5 = .ok (.iload_n 1, 1) := by decide +kernel
theorem dX12_isBehind_6 : decode cX12_isBehind 6 = .ok (.iload_n 3, 1) := by decide +kernel
theorem dX12_isBehind_7 : decode cX12_isBehind 7 = .ok (.if_icmp .ge 17, 3) := by decide +kernel
theorem dX12_isBehind_10 : decode cX12_isBehind 10 = .ok (.iload_n 0, 1) := by decide +kernel
theorem dX12_isBehind_11 : decode cX12_isBehind 11 = .ok (.iload_n 2, 1) := by decide +kernel
theorem dX12_isBehind_12 : decode cX12_isBehind 12 = .ok (.if_icmp .gt 12, 3) := by decide +kernel
theorem dX12_isBehind_15 : decode cX12_isBehind 15 = .ok (.iload_n 1, 1) := by decide +kernel
theorem dX12_isBehind_16 : decode cX12_isBehind 16 = .ok (.iload_n 3, 1) := by decide +kernel
theorem dX12_isBehind_17 : decode cX12_isBehind 17 = .ok (.if_icmp .gt 7, 3) := by decide +kernel
theorem dX12_isBehind_20 : decode cX12_isBehind 20 = .ok (.iconst 1, 1) := by decide +kernel
theorem dX12_isBehind_21 : decode cX12_isBehind 21 = .ok (.goto 4, 3) := by decide +kernel
theorem dX12_isBehind_24 : decode cX12_isBehind 24 = .ok (.iconst 0, 1) := by decide +kernel
theorem dX12_isBehind_25 : decode cX12_isBehind 25 = .ok (.ireturn, 1) := by decide +kernel
theorem dX12_stamped_0 : decode cX12_stamped 0 = .ok (.iload_n 2, 1) := by decide +kernel
theorem dX12_stamped_1 : decode cX12_stamped 1 = .ok (.aload_n 0, 1) := by decide +kernel
theorem dX12_stamped_2 : decode cX12_stamped 2 = .ok (.getfield 91, 3) := by decide +kernel
theorem dX12_stamped_5 : decode cX12_stamped 5 = .ok (.iload_n 1, 1) := by decide +kernel
theorem dX12_stamped_6 : decode cX12_stamped 6 = .ok (.iaload, 1) := by decide +kernel
theorem dX12_stamped_7 : decode cX12_stamped 7 = .ok (.if_icmp .le 16, 3) := by decide +kernel
theorem dX12_stamped_10 : decode cX12_stamped 10 = .ok (.aload_n 0, 1) := by decide +kernel
theorem dX12_stamped_11 : decode cX12_stamped 11 = .ok (.iload_n 1, 1) := by decide +kernel
theorem dX12_stamped_12 : decode cX12_stamped 12 = .ok (.aload_n 0, 1) := by decide +kernel
theorem dX12_stamped_13 : decode cX12_stamped 13 = .ok (.getfield 88, 3) := by decide +kernel
theorem dX12_stamped_16 : decode cX12_stamped 16 = .ok (.iload_n 1, 1) := by decide +kernel
theorem dX12_stamped_17 : decode cX12_stamped 17 = .ok (.iaload, 1) := by decide +kernel
theorem dX12_stamped_18 : decode cX12_stamped 18 = .ok (.iload_n 2, 1) := by decide +kernel
theorem dX12_stamped_19 : decode cX12_stamped 19 = .ok (.invokevirtual 312, 3) := by decide +kernel
theorem dX12_stamped_22 : decode cX12_stamped 22 = .ok (.return_, 1) := by decide +kernel
theorem dX12_stamped_23 : decode cX12_stamped 23 = .ok (.iload_n 2, 1) := by decide +kernel
theorem dX12_stamped_24 : decode cX12_stamped 24 = .ok (.aload_n 0, 1) := by decide +kernel
theorem dX12_stamped_25 : decode cX12_stamped 25 = .ok (.getfield 91, 3) := by decide +kernel
theorem dX12_stamped_28 : decode cX12_stamped 28 = .ok (.iload_n 1, 1) := by decide +kernel
theorem dX12_stamped_29 : decode cX12_stamped 29 = .ok (.iaload, 1) := by decide +kernel
theorem dX12_stamped_30 : decode cX12_stamped 30 = .ok (.if_icmp .ne 51, 3) := by decide +kernel
theorem dX12_stamped_33 : decode cX12_stamped 33 = .ok (.aload_n 0, 1) := by decide +kernel
theorem dX12_stamped_34 : decode cX12_stamped 34 = .ok (.getfield 94, 3) := by decide +kernel
theorem dX12_stamped_37 : decode cX12_stamped 37 = .ok (.iload_n 1, 1) := by decide +kernel
theorem dX12_stamped_38 : decode cX12_stamped 38 = .ok (.iaload, 1) := by decide +kernel
theorem dX12_stamped_39 : decode cX12_stamped 39 = .ok (.iconst 2, 1) := by decide +kernel
theorem dX12_stamped_40 : decode cX12_stamped 40 = .ok (.if_icmp .eq 41, 3) := by decide +kernel
theorem dX12_stamped_43 : decode cX12_stamped 43 = .ok (.aload_n 0, 1) := by decide +kernel
theorem dX12_stamped_44 : decode cX12_stamped 44 = .ok (.getfield 106, 3) := by decide +kernel
theorem dX12_stamped_47 : decode cX12_stamped 47 = .ok (.iload_n 1, 1) := by decide +kernel
theorem dX12_stamped_48 : decode cX12_stamped 48 = .ok (.iaload, 1) := by decide +kernel
theorem dX12_stamped_49 : decode cX12_stamped 49 = .ok (.iload_n 3, 1) := by decide +kernel
theorem dX12_stamped_50 : decode cX12_stamped 50 = .ok (.iadd, 1) := by decide +kernel
theorem dX12_stamped_51 : decode cX12_stamped 51 = .ok (.aload_n 0, 1) := by decide +kernel
theorem dX12_stamped_52 : decode cX12_stamped 52 = .ok (.getfield 103, 3) := by decide +kernel
theorem dX12_stamped_55 : decode cX12_stamped 55 = .ok (.iload_n 1, 1) := by decide +kernel
theorem dX12_stamped_56 : decode cX12_stamped 56 = .ok (.iaload, 1) := by decide +kernel
theorem dX12_stamped_57 : decode cX12_stamped 57 = .ok (.if_icmp .le 24, 3) := by decide +kernel
theorem dX12_stamped_60 : decode cX12_stamped 60 = .ok (.aload_n 0, 1) := by decide +kernel
theorem dX12_stamped_61 : decode cX12_stamped 61 = .ok (.iload_n 1, 1) := by decide +kernel
theorem dX12_stamped_62 : decode cX12_stamped 62 = .ok (.iload_n 3, 1) := by decide +kernel
theorem dX12_stamped_63 : decode cX12_stamped 63 = .ok (.invokevirtual 252, 3) := by decide +kernel
theorem dX12_stamped_66 : decode cX12_stamped 66 = .ok (.iconst (-1), 1) := by decide +kernel
theorem dX12_stamped_67 : decode cX12_stamped 67 = .ok (.if_icmp .ne 14, 3) := by decide +kernel
theorem dX12_stamped_70 : decode cX12_stamped 70 = .ok (.aload_n 0, 1) := by decide +kernel
theorem dX12_stamped_71 : decode cX12_stamped 71 = .ok (.getfield 118, 3) := by decide +kernel
theorem dX12_stamped_74 : decode cX12_stamped 74 = .ok (.iload_n 1, 1) := by decide +kernel
theorem dX12_stamped_75 : decode cX12_stamped 75 = .ok (.iaload, 1) := by decide +kernel
theorem dX12_stamped_76 : decode cX12_stamped 76 = .ok (.bipush 8, 2) := by decide +kernel
theorem dX12_stamped_78 : decode cX12_stamped 78 = .ok (.if_icmp .lt 4, 3) := by decide +kernel
theorem dX12_stamped_81 : decode cX12_stamped 81 = .ok (.return_, 1) := by decide +kernel
theorem dX12_stamped_82 : decode cX12_stamped 82 = .ok (.aload_n 0, 1) := by decide +kernel
theorem dX12_stamped_83 : decode cX12_stamped 83 = .ok (.iload_n 1, 1) := by decide +kernel
theorem dX12_stamped_84 : decode cX12_stamped 84 = .ok (.iload_n 3, 1) := by decide +kernel
theorem dX12_stamped_85 : decode cX12_stamped 85 = .ok (.iload 4, 2) := by decide +kernel
theorem dX12_stamped_87 : decode cX12_stamped 87 = .ok (.invokevirtual 315, 3) := by decide +kernel
theorem dX12_stamped_90 : decode cX12_stamped 90 = .ok (.aload_n 0, 1) := by decide +kernel
theorem dX12_stamped_91 : decode cX12_stamped 91 = .ok (.getfield 94, 3) := by decide +kernel
theorem dX12_stamped_94 : decode cX12_stamped 94 = .ok (.iload_n 1, 1) := by decide +kernel
theorem dX12_stamped_95 : decode cX12_stamped 95 = .ok (.iaload, 1) := by decide +kernel
theorem dX12_stamped_96 : decode cX12_stamped 96 = .ok (.ifCond .ne 8, 3) := by decide +kernel
theorem dX12_stamped_99 : decode cX12_stamped 99 = .ok (.aload_n 0, 1) := by decide +kernel
theorem dX12_stamped_100 : decode cX12_stamped 100 = .ok (.iload_n 1, 1) := by decide +kernel
theorem dX12_stamped_101 : decode cX12_stamped 101 = .ok (.invokevirtual 318, 3) := by decide +kernel
theorem dX12_stamped_104 : decode cX12_stamped 104 = .ok (.return_, 1) := by decide +kernel
theorem dX12_lookup_0 : decode cX12_lookup 0 = .ok (.aload_n 0, 1) := by decide +kernel
theorem dX12_lookup_1 : decode cX12_lookup 1 = .ok (.iload_n 1, 1) := by decide +kernel
theorem dX12_lookup_2 : decode cX12_lookup 2 = .ok (.invokevirtual 248, 3) := by decide +kernel
theorem dX12_lookup_5 : decode cX12_lookup 5 = .ok (.ifCond .eq 28, 3) := by decide +kernel
theorem dX12_lookup_8 : decode cX12_lookup 8 = .ok (.aload_n 0, 1) := by decide +kernel
theorem dX12_lookup_9 : decode cX12_lookup 9 = .ok (.getfield 94, 3) := by decide +kernel
theorem dX12_lookup_12 : decode cX12_lookup 12 = .ok (.iload_n 1, 1) := by decide +kernel
theorem dX12_lookup_13 : decode cX12_lookup 13 = .ok (.iaload, 1) := by decide +kernel
theorem dX12_lookup_14 : decode cX12_lookup 14 = .ok (.iconst 2, 1) := by decide +kernel
theorem dX12_lookup_15 : decode cX12_lookup 15 = .ok (.if_icmp .eq 18, 3) := by decide +kernel
theorem dX12_lookup_18 : decode cX12_lookup 18 = .ok (.iload_n 3, 1) := by decide +kernel
theorem dX12_lookup_19 : decode cX12_lookup 19 = .ok (.iconst 1, 1) := by decide +kernel
theorem dX12_lookup_20 : decode cX12_lookup 20 = .ok (.if_icmp .lt 13, 3) := by decide +kernel
theorem dX12_lookup_23 : decode cX12_lookup 23 = .ok (.iload_n 3, 1) := by decide +kernel
theorem dX12_lookup_24 : decode cX12_lookup 24 = .ok (.aload_n 0, 1) := by decide +kernel
theorem dX12_lookup_25 : decode cX12_lookup 25 = .ok (.getfield 103, 3) := by decide +kernel
theorem dX12_lookup_28 : decode cX12_lookup 28 = .ok (.iload_n 1, 1) := by decide +kernel
theorem dX12_lookup_29 : decode cX12_lookup 29 = .ok (.iaload, 1) := by decide +kernel
theorem dX12_lookup_30 : decode cX12_lookup 30 = .ok (.if_icmp .le 4, 3) := by decide +kernel
theorem dX12_lookup_33 : decode cX12_lookup 33 = .ok (.return_, 1) := by decide +kernel
theorem dX12_lookup_34 : decode cX12_lookup 34 = .ok (.aload_n 0, 1) := by decide +kernel
theorem dX12_lookup_35 : decode cX12_lookup 35 = .ok (.getfield 115, 3) := by decide +kernel
theorem dX12_lookup_38 : decode cX12_lookup 38 = .ok (.bipush 100, 2) := by decide +kernel
theorem dX12_lookup_40 : decode cX12_lookup 40 = .ok (.iload_n 1, 1) := by decide +kernel
theorem dX12_lookup_41 : decode cX12_lookup 41 = .ok (.imul, 1) := by decide +kernel
theorem dX12_lookup_42 : decode cX12_lookup 42 = .ok (.iload_n 3, 1) := by decide +kernel
theorem dX12_lookup_43 : decode cX12_lookup 43 = .ok (.iadd, 1) := by decide +kernel
theorem dX12_lookup_44 : decode cX12_lookup 44 = .ok (.iconst 1, 1) := by decide +kernel
theorem dX12_lookup_45 : decode cX12_lookup 45 = .ok (.isub, 1) := by decide +kernel
theorem dX12_lookup_46 : decode cX12_lookup 46 = .ok (.iaload, 1) := by decide +kernel
theorem dX12_lookup_47 : decode cX12_lookup 47 = .ok (.istore 4, 2) := by decide +kernel
theorem dX12_lookup_49 : decode cX12_lookup 49 = .ok (.aload_n 0, 1) := by decide +kernel
theorem dX12_lookup_50 : decode cX12_lookup 50 = .ok (.iload 4, 2) := by decide +kernel
theorem dX12_lookup_52 : decode cX12_lookup 52 = .ok (.ifCond .ne 7, 3) := by decide +kernel
theorem dX12_lookup_55 : decode cX12_lookup 55 = .ok (.iconst 3, 1) := by decide +kernel
theorem dX12_lookup_56 : decode cX12_lookup 56 = .ok (.goto 4, 3) := by decide +kernel
theorem dX12_lookup_59 : decode cX12_lookup 59 = .ok (.iconst 2, 1) := by decide +kernel
theorem dX12_lookup_60 : decode cX12_lookup 60 = .ok (.iload_n 1, 1) := by decide +kernel
theorem dX12_lookup_61 : decode cX12_lookup 61 = .ok (.iload_n 2, 1) := by decide +kernel
theorem dX12_lookup_62 : decode cX12_lookup 62 = .ok (.aload_n 0, 1) := by decide +kernel
theorem dX12_lookup_63 : decode cX12_lookup 63 = .ok (.getfield 88, 3) := by decide +kernel
theorem dX12_lookup_66 : decode cX12_lookup 66 = .ok (.iload_n 1, 1) := by decide +kernel
theorem dX12_lookup_67 : decode cX12_lookup 67 = .ok (.iaload, 1) := by decide +kernel
theorem dX12_lookup_68 : decode cX12_lookup 68 = .ok (.aload_n 0, 1) := by decide +kernel
theorem dX12_lookup_69 : decode cX12_lookup 69 = .ok (.getfield 91, 3) := by decide +kernel
theorem dX12_lookup_72 : decode cX12_lookup 72 = .ok (.iload_n 1, 1) := by decide +kernel
theorem dX12_lookup_73 : decode cX12_lookup 73 = .ok (.iaload, 1) := by decide +kernel
theorem dX12_lookup_74 : decode cX12_lookup 74 = .ok (.iload_n 3, 1) := by decide +kernel
theorem dX12_lookup_75 : decode cX12_lookup 75 = .ok (.iload 4, 2) := by decide +kernel
theorem dX12_lookup_77 : decode cX12_lookup 77 = .ok (.invokevirtual 241, 3) := by decide +kernel
theorem dX12_lookup_80 : decode cX12_lookup 80 = .ok (.pop, 1) := by decide +kernel
theorem dX12_lookup_81 : decode cX12_lookup 81 = .ok (.return_, 1) := by decide +kernel
theorem dX12_gapCommit_0 : decode cX12_gapCommit 0 = .ok (.aload_n 0, 1) := by decide +kernel
theorem dX12_gapCommit_1 : decode cX12_gapCommit 1 = .ok (.iload_n 1, 1) := by decide +kernel
theorem dX12_gapCommit_2 : decode cX12_gapCommit 2 = .ok (.invokevirtual 248, 3) := by decide +kernel
theorem dX12_gapCommit_5 : decode cX12_gapCommit 5 = .ok (.ifCond .ne 47, 3) := by decide +kernel
theorem dX12_gapCommit_8 : decode cX12_gapCommit 8 = .ok (.aload_n 0, 1) := by decide +kernel
theorem dX12_gapCommit_9 : decode cX12_gapCommit 9 = .ok (.getfield 94, 3) := by decide +kernel
theorem dX12_gapCommit_12 : decode cX12_gapCommit 12 = .ok (.iload_n 1, 1) := by decide +kernel
theorem dX12_gapCommit_13 : decode cX12_gapCommit 13 = .ok (.iaload, 1) := by decide +kernel
theorem dX12_gapCommit_14 : decode cX12_gapCommit 14 = .ok (.ifCond .ne 38, 3) := by decide +kernel
theorem dX12_gapCommit_17 : decode cX12_gapCommit 17 = .ok (.iload_n 3, 1) := by decide +kernel
theorem dX12_gapCommit_18 : decode cX12_gapCommit 18 = .ok (.aload_n 0, 1) := by decide +kernel
theorem dX12_gapCommit_19 : decode cX12_gapCommit 19 = .ok (.getfield 103, 3) := by decide +kernel
theorem dX12_gapCommit_22 : decode cX12_gapCommit 22 = .ok (.iload_n 1, 1) := by decide +kernel
theorem dX12_gapCommit_23 : decode cX12_gapCommit 23 = .ok (.iaload, 1) := by decide +kernel
theorem dX12_gapCommit_24 : decode cX12_gapCommit 24 = .ok (.iconst 1, 1) := by decide +kernel
theorem dX12_gapCommit_25 : decode cX12_gapCommit 25 = .ok (.iadd, 1) := by decide +kernel
theorem dX12_gapCommit_26 : decode cX12_gapCommit 26 = .ok (.if_icmp .gt 26, 3) := by decide +kernel
theorem dX12_gapCommit_29 : decode cX12_gapCommit 29 = .ok (.iload_n 3, 1) := by decide +kernel
theorem dX12_gapCommit_30 : decode cX12_gapCommit 30 = .ok (.aload_n 0, 1) := by decide +kernel
theorem dX12_gapCommit_31 : decode cX12_gapCommit 31 = .ok (.getfield 103, 3) := by decide +kernel
theorem dX12_gapCommit_34 : decode cX12_gapCommit 34 = .ok (.iload_n 1, 1) := by decide +kernel
theorem dX12_gapCommit_35 : decode cX12_gapCommit 35 = .ok (.iaload, 1) := by decide +kernel
theorem dX12_gapCommit_36 : decode cX12_gapCommit 36 = .ok (.iconst 1, 1) := by decide +kernel
theorem dX12_gapCommit_37 : decode cX12_gapCommit 37 = .ok (.iadd, 1) := by decide +kernel
theorem dX12_gapCommit_38 : decode cX12_gapCommit 38 = .ok (.if_icmp .ne 15, 3) := by decide +kernel
theorem dX12_gapCommit_41 : decode cX12_gapCommit 41 = .ok (.aload_n 0, 1) := by decide +kernel
theorem dX12_gapCommit_42 : decode cX12_gapCommit 42 = .ok (.getfield 103, 3) := by decide +kernel
theorem dX12_gapCommit_45 : decode cX12_gapCommit 45 = .ok (.iload_n 1, 1) := by decide +kernel
theorem dX12_gapCommit_46 : decode cX12_gapCommit 46 = .ok (.iaload, 1) := by decide +kernel
theorem dX12_gapCommit_47 : decode cX12_gapCommit 47 = .ok (.bipush 100, 2) := by decide +kernel
theorem dX12_gapCommit_49 : decode cX12_gapCommit 49 = .ok (.if_icmp .ne 4, 3) := by decide +kernel
theorem dX12_gapCommit_52 : decode cX12_gapCommit 52 = .ok (.return_, 1) := by decide +kernel
theorem dX12_gapCommit_53 : decode cX12_gapCommit 53 = .ok (.iload_n 3, 1) := by decide +kernel
theorem dX12_gapCommit_54 : decode cX12_gapCommit 54 = .ok (.aload_n 0, 1) := by decide +kernel
theorem dX12_gapCommit_55 : decode cX12_gapCommit 55 = .ok (.getfield 103, 3) := by decide +kernel
theorem dX12_gapCommit_58 : decode cX12_gapCommit 58 = .ok (.iload_n 1, 1) := by decide +kernel
theorem dX12_gapCommit_59 : decode cX12_gapCommit 59 = .ok (.iaload, 1) := by decide +kernel
theorem dX12_gapCommit_60 : decode cX12_gapCommit 60 = .ok (.iconst 1, 1) := by decide +kernel
theorem dX12_gapCommit_61 : decode cX12_gapCommit 61 = .ok (.iadd, 1) := by decide +kernel
theorem dX12_gapCommit_62 : decode cX12_gapCommit 62 = .ok (.if_icmp .ne 7, 3) := by decide +kernel
theorem dX12_gapCommit_65 : decode cX12_gapCommit 65 = .ok (.iconst 1, 1) := by decide +kernel
theorem dX12_gapCommit_66 : decode cX12_gapCommit 66 = .ok (.goto 4, 3) := by decide +kernel
theorem dX12_gapCommit_69 : decode cX12_gapCommit 69 = .ok (.iconst 0, 1) := by decide +kernel
theorem dX12_gapCommit_70 : decode cX12_gapCommit 70 = .ok (.istore 4, 2) := by decide +kernel
theorem dX12_gapCommit_72 : decode cX12_gapCommit 72 = .ok (.iload 4, 2) := by decide +kernel
theorem dX12_gapCommit_74 : decode cX12_gapCommit 74 = .ok (.ifCond .eq 25, 3) := by decide +kernel
theorem dX12_gapCommit_77 : decode cX12_gapCommit 77 = .ok (.aload_n 0, 1) := by decide +kernel
theorem dX12_gapCommit_78 : decode cX12_gapCommit 78 = .ok (.iload_n 1, 1) := by decide +kernel
theorem dX12_gapCommit_79 : decode cX12_gapCommit 79 = .ok (.iconst 0, 1) := by decide +kernel
theorem dX12_gapCommit_80 : decode cX12_gapCommit 80 = .ok (.invokevirtual 263, 3) := by decide +kernel
theorem dX12_gapCommit_83 : decode cX12_gapCommit 83 = .ok (.aload_n 0, 1) := by decide +kernel
theorem dX12_gapCommit_84 : decode cX12_gapCommit 84 = .ok (.iload_n 1, 1) := by decide +kernel
theorem dX12_gapCommit_85 : decode cX12_gapCommit 85 = .ok (.iload_n 3, 1) := by decide +kernel
theorem dX12_gapCommit_86 : decode cX12_gapCommit 86 = .ok (.aload_n 0, 1) := by decide +kernel
theorem dX12_gapCommit_87 : decode cX12_gapCommit 87 = .ok (.getfield 106, 3) := by decide +kernel
theorem dX12_gapCommit_90 : decode cX12_gapCommit 90 = .ok (.iload_n 1, 1) := by decide +kernel
theorem dX12_gapCommit_91 : decode cX12_gapCommit 91 = .ok (.iaload, 1) := by decide +kernel
theorem dX12_gapCommit_92 : decode cX12_gapCommit 92 = .ok (.isub, 1) := by decide +kernel
theorem dX12_gapCommit_93 : decode cX12_gapCommit 93 = .ok (.invokevirtual 260, 3) := by decide +kernel
theorem dX12_gapCommit_96 : decode cX12_gapCommit 96 = .ok (.goto 17, 3) := by decide +kernel
theorem dX12_gapCommit_99 : decode cX12_gapCommit 99 = .ok (.aload_n 0, 1) := by decide +kernel
theorem dX12_gapCommit_100 : decode cX12_gapCommit 100 = .ok (.getfield 115, 3) := by decide +kernel
theorem dX12_gapCommit_103 : decode cX12_gapCommit 103 = .ok (.bipush 100, 2) := by decide +kernel
theorem dX12_gapCommit_105 : decode cX12_gapCommit 105 = .ok (.iload_n 1, 1) := by decide +kernel
theorem dX12_gapCommit_106 : decode cX12_gapCommit 106 = .ok (.imul, 1) := by decide +kernel
theorem dX12_gapCommit_107 : decode cX12_gapCommit 107 = .ok (.iload_n 3, 1) := by decide +kernel
theorem dX12_gapCommit_108 : decode cX12_gapCommit 108 = .ok (.iadd, 1) := by decide +kernel
theorem dX12_gapCommit_109 : decode cX12_gapCommit 109 = .ok (.iconst 1, 1) := by decide +kernel
theorem dX12_gapCommit_110 : decode cX12_gapCommit 110 = .ok (.isub, 1) := by decide +kernel
theorem dX12_gapCommit_111 : decode cX12_gapCommit 111 = .ok (.iconst 0, 1) := by decide +kernel
theorem dX12_gapCommit_112 : decode cX12_gapCommit 112 = .ok (.iastore, 1) := by decide +kernel
theorem dX12_gapCommit_113 : decode cX12_gapCommit 113 = .ok (.aload_n 0, 1) := by decide +kernel
theorem dX12_gapCommit_114 : decode cX12_gapCommit 114 = .ok (.iconst 4, 1) := by decide +kernel
theorem dX12_gapCommit_115 : decode cX12_gapCommit 115 = .ok (.iload_n 1, 1) := by decide +kernel
theorem dX12_gapCommit_116 : decode cX12_gapCommit 116 = .ok (.aload_n 0, 1) := by decide +kernel
theorem dX12_gapCommit_117 : decode cX12_gapCommit 117 = .ok (.iload_n 1, 1) := by decide +kernel
theorem dX12_gapCommit_118 : decode cX12_gapCommit 118 = .ok (.invokevirtual 269, 3) := by decide +kernel
theorem dX12_gapCommit_121 : decode cX12_gapCommit 121 = .ok (.aload_n 0, 1) := by decide +kernel
theorem dX12_gapCommit_122 : decode cX12_gapCommit 122 = .ok (.getfield 88, 3) := by decide +kernel
theorem dX12_gapCommit_125 : decode cX12_gapCommit 125 = .ok (.iload_n 1, 1) := by decide +kernel
theorem dX12_gapCommit_126 : decode cX12_gapCommit 126 = .ok (.iaload, 1) := by decide +kernel
theorem dX12_gapCommit_127 : decode cX12_gapCommit 127 = .ok (.aload_n 0, 1) := by decide +kernel
theorem dX12_gapCommit_128 : decode cX12_gapCommit 128 = .ok (.getfield 91, 3) := by decide +kernel
theorem dX12_gapCommit_131 : decode cX12_gapCommit 131 = .ok (.iload_n 1, 1) := by decide +kernel
theorem dX12_gapCommit_132 : decode cX12_gapCommit 132 = .ok (.iaload, 1) := by decide +kernel
theorem dX12_gapCommit_133 : decode cX12_gapCommit 133 = .ok (.iload_n 3, 1) := by decide +kernel
theorem dX12_gapCommit_134 : decode cX12_gapCommit 134 = .ok (.iconst 0, 1) := by decide +kernel
theorem dX12_gapCommit_135 : decode cX12_gapCommit 135 = .ok (.invokevirtual 241, 3) := by decide +kernel
theorem dX12_gapCommit_138 : decode cX12_gapCommit 138 = .ok (.pop, 1) := by decide +kernel
theorem dX12_gapCommit_139 : decode cX12_gapCommit 139 = .ok (.iload 4, 2) := by decide +kernel
theorem dX12_gapCommit_141 : decode cX12_gapCommit 141 = .ok (.ifCond .eq 8, 3) := by decide +kernel
theorem dX12_gapCommit_144 : decode cX12_gapCommit 144 = .ok (.aload_n 0, 1) := by decide +kernel
theorem dX12_gapCommit_145 : decode cX12_gapCommit 145 = .ok (.iload_n 1, 1) := by decide +kernel
theorem dX12_gapCommit_146 : decode cX12_gapCommit 146 = .ok (.invokevirtual 318, 3) := by decide +kernel
theorem dX12_gapCommit_149 : decode cX12_gapCommit 149 = .ok (.return_, 1) := by decide +kernel
theorem dX12_gapReply_0 : decode cX12_gapReply 0 = .ok (.aload_n 0, 1) := by decide +kernel
theorem dX12_gapReply_1 : decode cX12_gapReply 1 = .ok (.iload_n 1, 1) := by decide +kernel
theorem dX12_gapReply_2 : decode cX12_gapReply 2 = .ok (.invokevirtual 248, 3) := by decide +kernel
theorem dX12_gapReply_5 : decode cX12_gapReply 5 = .ok (.ifCond .eq 23, 3) := by decide +kernel
theorem dX12_gapReply_8 : decode cX12_gapReply 8 = .ok (.aload_n 0, 1) := by decide +kernel
theorem dX12_gapReply_9 : decode cX12_gapReply 9 = .ok (.getfield 94, 3) := by decide +kernel
theorem dX12_gapReply_12 : decode cX12_gapReply 12 = .ok (.iload_n 1, 1) := by decide +kernel
theorem dX12_gapReply_13 : decode cX12_gapReply 13 = .ok (.iaload, 1) := by decide +kernel
theorem dX12_gapReply_14 : decode cX12_gapReply 14 = .ok (.iconst 1, 1) := by decide +kernel
theorem dX12_gapReply_15 : decode cX12_gapReply 15 = .ok (.if_icmp .ne 13, 3) := by decide +kernel
theorem dX12_gapReply_18 : decode cX12_gapReply 18 = .ok (.iload_n 3, 1) := by decide +kernel
theorem dX12_gapReply_19 : decode cX12_gapReply 19 = .ok (.aload_n 0, 1) := by decide +kernel
theorem dX12_gapReply_20 : decode cX12_gapReply 20 = .ok (.getfield 103, 3) := by decide +kernel
theorem dX12_gapReply_23 : decode cX12_gapReply 23 = .ok (.iload_n 1, 1) := by decide +kernel
theorem dX12_gapReply_24 : decode cX12_gapReply 24 = .ok (.iaload, 1) := by decide +kernel
theorem dX12_gapReply_25 : decode cX12_gapReply 25 = .ok (.if_icmp .eq 4, 3) := by decide +kernel
theorem dX12_gapReply_28 : decode cX12_gapReply 28 = .ok (.return_, 1) := by decide +kernel
theorem dX12_gapReply_29 : decode cX12_gapReply 29 = .ok (.aload_n 0, 1) := by decide +kernel
theorem dX12_gapReply_30 : decode cX12_gapReply 30 = .ok (.getfield 127, 3) := by decide +kernel
theorem dX12_gapReply_33 : decode cX12_gapReply 33 = .ok (.iload_n 1, 1) := by decide +kernel
theorem dX12_gapReply_34 : decode cX12_gapReply 34 = .ok (.dup2, 1) := by decide +kernel
theorem dX12_gapReply_35 : decode cX12_gapReply 35 = .ok (.iaload, 1) := by decide +kernel
theorem dX12_gapReply_36 : decode cX12_gapReply 36 = .ok (.iconst 1, 1) := by decide +kernel
theorem dX12_gapReply_37 : decode cX12_gapReply 37 = .ok (.iload_n 2, 1) := by decide +kernel
theorem dX12_gapReply_38 : decode cX12_gapReply 38 = .ok (.ishl, 1) := by decide +kernel
theorem dX12_gapReply_39 : decode cX12_gapReply 39 = .ok (.ior, 1) := by decide +kernel
theorem dX12_gapReply_40 : decode cX12_gapReply 40 = .ok (.iastore, 1) := by decide +kernel
theorem dX12_gapReply_41 : decode cX12_gapReply 41 = .ok (.aload_n 0, 1) := by decide +kernel
theorem dX12_gapReply_42 : decode cX12_gapReply 42 = .ok (.getfield 127, 3) := by decide +kernel
theorem dX12_gapReply_45 : decode cX12_gapReply 45 = .ok (.iload_n 1, 1) := by decide +kernel
theorem dX12_gapReply_46 : decode cX12_gapReply 46 = .ok (.iaload, 1) := by decide +kernel
theorem dX12_gapReply_47 : decode cX12_gapReply 47 = .ok (.invokestatic 302, 3) := by decide +kernel
theorem dX12_gapReply_50 : decode cX12_gapReply 50 = .ok (.aload_n 0, 1) := by decide +kernel
theorem dX12_gapReply_51 : decode cX12_gapReply 51 = .ok (.getfield 226, 3) := by decide +kernel
theorem dX12_gapReply_54 : decode cX12_gapReply 54 = .ok (.if_icmp .ge 4, 3) := by decide +kernel
theorem dX12_gapReply_57 : decode cX12_gapReply 57 = .ok (.return_, 1) := by decide +kernel
theorem dX12_gapReply_58 : decode cX12_gapReply 58 = .ok (.aload_n 0, 1) := by decide +kernel
theorem dX12_gapReply_59 : decode cX12_gapReply 59 = .ok (.getfield 94, 3) := by decide +kernel
theorem dX12_gapReply_62 : decode cX12_gapReply 62 = .ok (.iload_n 1, 1) := by decide +kernel
theorem dX12_gapReply_63 : decode cX12_gapReply 63 = .ok (.iconst 0, 1) := by decide +kernel
theorem dX12_gapReply_64 : decode cX12_gapReply 64 = .ok (.iastore, 1) := by decide +kernel
theorem dX12_gapReply_65 : decode cX12_gapReply 65 = .ok (.aload_n 0, 1) := by decide +kernel
theorem dX12_gapReply_66 : decode cX12_gapReply 66 = .ok (.iload_n 1, 1) := by decide +kernel
theorem dX12_gapReply_67 : decode cX12_gapReply 67 = .ok (.invokevirtual 318, 3) := by decide +kernel
theorem dX12_gapReply_70 : decode cX12_gapReply 70 = .ok (.return_, 1) := by decide +kernel
theorem dX12_sync_0 : decode cX12_sync 0 = .ok (.aload_n 0, 1) := by decide +kernel
theorem dX12_sync_1 : decode cX12_sync 1 = .ok (.iload_n 1, 1) := by decide +kernel
theorem dX12_sync_2 : decode cX12_sync 2 = .ok (.invokevirtual 248, 3) := by decide +kernel
theorem dX12_sync_5 : decode cX12_sync 5 = .ok (.ifCond .ne 22, 3) := by decide +kernel
theorem dX12_sync_8 : decode cX12_sync 8 = .ok (.aload_n 0, 1) := by decide +kernel
theorem dX12_sync_9 : decode cX12_sync 9 = .ok (.getfield 94, 3) := by decide +kernel
theorem dX12_sync_12 : decode cX12_sync 12 = .ok (.iload_n 1, 1) := by decide +kernel
theorem dX12_sync_13 : decode cX12_sync 13 = .ok (.iaload, 1) := by decide +kernel
theorem dX12_sync_14 : decode cX12_sync 14 = .ok (.ifCond .ne 13, 3) := by decide +kernel
theorem dX12_sync_17 : decode cX12_sync 17 = .ok (.aload_n 0, 1) := by decide +kernel
theorem dX12_sync_18 : decode cX12_sync 18 = .ok (.getfield 103, 3) := by decide +kernel
theorem dX12_sync_21 : decode cX12_sync 21 = .ok (.iload_n 1, 1) := by decide +kernel
theorem dX12_sync_22 : decode cX12_sync 22 = .ok (.iaload, 1) := by decide +kernel
theorem dX12_sync_23 : decode cX12_sync 23 = .ok (.iload_n 2, 1) := by decide +kernel
theorem dX12_sync_24 : decode cX12_sync 24 = .ok (.if_icmp .ge 4, 3) := by decide +kernel
theorem dX12_sync_27 : decode cX12_sync 27 = .ok (.return_, 1) := by decide +kernel
theorem dX12_sync_28 : decode cX12_sync 28 = .ok (.iconst 0, 1) := by decide +kernel
theorem dX12_sync_29 : decode cX12_sync 29 = .ok (.istore_n 3, 1) := by decide +kernel
theorem dX12_sync_30 : decode cX12_sync 30 = .ok (.iload_n 3, 1) := by decide +kernel
theorem dX12_sync_31 : decode cX12_sync 31 = .ok (.iload_n 2, 1) := by decide +kernel
theorem dX12_sync_32 : decode cX12_sync 32 = .ok (.if_icmp .ge 26, 3) := by decide +kernel
theorem dX12_sync_35 : decode cX12_sync 35 = .ok (.aload_n 0, 1) := by decide +kernel
theorem dX12_sync_36 : decode cX12_sync 36 = .ok (.getfield 115, 3) := by decide +kernel
theorem dX12_sync_39 : decode cX12_sync 39 = .ok (.bipush 100, 2) := by decide +kernel
theorem dX12_sync_41 : decode cX12_sync 41 = .ok (.iload_n 1, 1) := by decide +kernel
theorem dX12_sync_42 : decode cX12_sync 42 = .ok (.imul, 1) := by decide +kernel
theorem dX12_sync_43 : decode cX12_sync 43 = .ok (.iload_n 3, 1) := by decide +kernel
theorem dX12_sync_44 : decode cX12_sync 44 = .ok (.iadd, 1) := by decide +kernel
theorem dX12_sync_45 : decode cX12_sync 45 = .ok (.aload_n 0, 1) := by decide +kernel
theorem dX12_sync_46 : decode cX12_sync 46 = .ok (.getfield 157, 3) := by decide +kernel
theorem dX12_sync_49 : decode cX12_sync 49 = .ok (.iload_n 3, 1) := by decide +kernel
theorem dX12_sync_50 : decode cX12_sync 50 = .ok (.iaload, 1) := by decide +kernel
theorem dX12_sync_51 : decode cX12_sync 51 = .ok (.iastore, 1) := by decide +kernel
theorem dX12_sync_52 : decode cX12_sync 52 = .ok (.iinc 3 1, 3) := by decide +kernel
theorem dX12_sync_55 : decode cX12_sync 55 = .ok (.goto (-25), 3) := by decide +kernel
theorem dX12_sync_58 : decode cX12_sync 58 = .ok (.aload_n 0, 1) := by decide +kernel
theorem dX12_sync_59 : decode cX12_sync 59 = .ok (.getfield 112, 3) := by decide +kernel
theorem dX12_sync_62 : decode cX12_sync 62 = .ok (.iload_n 1, 1) := by decide +kernel
theorem dX12_sync_63 : decode cX12_sync 63 = .ok (.iload_n 2, 1) := by decide +kernel
theorem dX12_sync_64 : decode cX12_sync 64 = .ok (.aload_n 0, 1) := by decide +kernel
theorem dX12_sync_65 : decode cX12_sync 65 = .ok (.getfield 112, 3) := by decide +kernel
theorem dX12_sync_68 : decode cX12_sync 68 = .ok (.iload_n 1, 1) := by decide +kernel
theorem dX12_sync_69 : decode cX12_sync 69 = .ok (.iaload, 1) := by decide +kernel
theorem dX12_sync_70 : decode cX12_sync 70 = .ok (.if_icmp .le 7, 3) := by decide +kernel
theorem dX12_sync_73 : decode cX12_sync 73 = .ok (.iload_n 2, 1) := by decide +kernel
theorem dX12_sync_74 : decode cX12_sync 74 = .ok (.goto 9, 3) := by decide +kernel
theorem dX12_sync_77 : decode cX12_sync 77 = .ok (.aload_n 0, 1) := by decide +kernel
theorem dX12_sync_78 : decode cX12_sync 78 = .ok (.getfield 112, 3) := by decide +kernel
theorem dX12_sync_81 : decode cX12_sync 81 = .ok (.iload_n 1, 1) := by decide +kernel
theorem dX12_sync_82 : decode cX12_sync 82 = .ok (.iaload, 1) := by decide +kernel
theorem dX12_sync_83 : decode cX12_sync 83 = .ok (.iastore, 1) := by decide +kernel
theorem dX12_sync_84 : decode cX12_sync 84 = .ok (.aload_n 0, 1) := by decide +kernel
theorem dX12_sync_85 : decode cX12_sync 85 = .ok (.bipush 6, 2) := by decide +kernel
theorem dX12_sync_87 : decode cX12_sync 87 = .ok (.iload_n 1, 1) := by decide +kernel
theorem dX12_sync_88 : decode cX12_sync 88 = .ok (.aload_n 0, 1) := by decide +kernel
theorem dX12_sync_89 : decode cX12_sync 89 = .ok (.iload_n 1, 1) := by decide +kernel
theorem dX12_sync_90 : decode cX12_sync 90 = .ok (.invokevirtual 269, 3) := by decide +kernel
theorem dX12_sync_93 : decode cX12_sync 93 = .ok (.aload_n 0, 1) := by decide +kernel
theorem dX12_sync_94 : decode cX12_sync 94 = .ok (.getfield 88, 3) := by decide +kernel
theorem dX12_sync_97 : decode cX12_sync 97 = .ok (.iload_n 1, 1) := by decide +kernel
theorem dX12_sync_98 : decode cX12_sync 98 = .ok (.iaload, 1) := by decide +kernel
theorem dX12_sync_99 : decode cX12_sync 99 = .ok (.aload_n 0, 1) := by decide +kernel
theorem dX12_sync_100 : decode cX12_sync 100 = .ok (.getfield 91, 3) := by decide +kernel
theorem dX12_sync_103 : decode cX12_sync 103 = .ok (.iload_n 1, 1) := by decide +kernel
theorem dX12_sync_104 : decode cX12_sync 104 = .ok (.iaload, 1) := by decide +kernel
theorem dX12_sync_105 : decode cX12_sync 105 = .ok (.iload_n 2, 1) := by decide +kernel
theorem dX12_sync_106 : decode cX12_sync 106 = .ok (.iconst 0, 1) := by decide +kernel
theorem dX12_sync_107 : decode cX12_sync 107 = .ok (.invokevirtual 241, 3) := by decide +kernel
theorem dX12_sync_110 : decode cX12_sync 110 = .ok (.pop, 1) := by decide +kernel
theorem dX12_sync_111 : decode cX12_sync 111 = .ok (.return_, 1) := by decide +kernel
theorem dX12_syncReply_0 : decode cX12_syncReply 0 = .ok (.aload_n 0, 1) := by decide +kernel
theorem dX12_syncReply_1 : decode cX12_syncReply 1 = .ok (.iload_n 1, 1) := by decide +kernel
theorem dX12_syncReply_2 : decode cX12_syncReply 2 = .ok (.invokevirtual 248, 3) := by decide +kernel
theorem dX12_syncReply_5 : decode cX12_syncReply 5 = .ok (.ifCond .eq 23, 3) := by decide +kernel
theorem dX12_syncReply_8 : decode cX12_syncReply 8 = .ok (.aload_n 0, 1) := by decide +kernel
theorem dX12_syncReply_9 : decode cX12_syncReply 9 = .ok (.getfield 94, 3) := by decide +kernel
theorem dX12_syncReply_12 : decode cX12_syncReply 12 = .ok (.iload_n 1, 1) := by decide +kernel
theorem dX12_syncReply_13 : decode cX12_syncReply 13 = .ok (.iaload, 1) := by decide +kernel
theorem dX12_syncReply_14 : decode cX12_syncReply 14 = .ok (.iconst 2, 1) := by decide +kernel
theorem dX12_syncReply_15 : decode cX12_syncReply 15 = .ok (.if_icmp .eq 13, 3) := by decide +kernel
theorem dX12_syncReply_18 : decode cX12_syncReply 18 = .ok (.iload_n 3, 1) := by decide +kernel
theorem dX12_syncReply_19 : decode cX12_syncReply 19 = .ok (.aload_n 0, 1) := by decide +kernel
theorem dX12_syncReply_20 : decode cX12_syncReply 20 = .ok (.getfield 109, 3) := by decide +kernel
theorem dX12_syncReply_23 : decode cX12_syncReply 23 = .ok (.iload_n 1, 1) := by decide +kernel
theorem dX12_syncReply_24 : decode cX12_syncReply 24 = .ok (.iaload, 1) := by decide +kernel
theorem dX12_syncReply_25 : decode cX12_syncReply 25 = .ok (.if_icmp .gt 4, 3) := by decide +kernel
theorem dX12_syncReply_28 : decode cX12_syncReply 28 = .ok (.return_, 1) := by decide +kernel
theorem dX12_syncReply_29 : decode cX12_syncReply 29 = .ok (.aload_n 0, 1) := by decide +kernel
theorem dX12_syncReply_30 : decode cX12_syncReply 30 = .ok (.getfield 133, 3) := by decide +kernel
theorem dX12_syncReply_33 : decode cX12_syncReply 33 = .ok (.iload_n 1, 1) := by decide +kernel
theorem dX12_syncReply_34 : decode cX12_syncReply 34 = .ok (.iaload, 1) := by decide +kernel
theorem dX12_syncReply_35 : decode cX12_syncReply 35 = .ok (.iload_n 3, 1) := by decide +kernel
theorem dX12_syncReply_36 : decode cX12_syncReply 36 = .ok (.if_icmp .eq 10, 3) := by decide +kernel
theorem dX12_syncReply_39 : decode cX12_syncReply 39 = .ok (.aload_n 0, 1) := by decide +kernel
theorem dX12_syncReply_40 : decode cX12_syncReply 40 = .ok (.getfield 130, 3) := by decide +kernel
theorem dX12_syncReply_43 : decode cX12_syncReply 43 = .ok (.iload_n 1, 1) := by decide +kernel
theorem dX12_syncReply_44 : decode cX12_syncReply 44 = .ok (.iconst 0, 1) := by decide +kernel
theorem dX12_syncReply_45 : decode cX12_syncReply 45 = .ok (.iastore, 1) := by decide +kernel
theorem dX12_syncReply_46 : decode cX12_syncReply 46 = .ok (.aload_n 0, 1) := by decide +kernel
theorem dX12_syncReply_47 : decode cX12_syncReply 47 = .ok (.getfield 133, 3) := by decide +kernel
theorem dX12_syncReply_50 : decode cX12_syncReply 50 = .ok (.iload_n 1, 1) := by decide +kernel
theorem dX12_syncReply_51 : decode cX12_syncReply 51 = .ok (.iload_n 3, 1) := by decide +kernel
theorem dX12_syncReply_52 : decode cX12_syncReply 52 = .ok (.iastore, 1) := by decide +kernel
theorem dX12_syncReply_53 : decode cX12_syncReply 53 = .ok (.aload_n 0, 1) := by decide +kernel
theorem dX12_syncReply_54 : decode cX12_syncReply 54 = .ok (.getfield 130, 3) := by decide +kernel
theorem dX12_syncReply_57 : decode cX12_syncReply 57 = .ok (.iload_n 1, 1) := by decide +kernel
theorem dX12_syncReply_58 : decode cX12_syncReply 58 = .ok (.dup2, 1) := by decide +kernel
theorem dX12_syncReply_59 : decode cX12_syncReply 59 = .ok (.iaload, 1) := by decide +kernel
theorem dX12_syncReply_60 : decode cX12_syncReply 60 = .ok (.iconst 1, 1) := by decide +kernel
theorem dX12_syncReply_61 : decode cX12_syncReply 61 = .ok (.iload_n 2, 1) := by decide +kernel
theorem dX12_syncReply_62 : decode cX12_syncReply 62 = .ok (.ishl, 1) := by decide +kernel
theorem dX12_syncReply_63 : decode cX12_syncReply 63 = .ok (.ior, 1) := by decide +kernel
theorem dX12_syncReply_64 : decode cX12_syncReply 64 = .ok (.iastore, 1) := by decide +kernel
theorem dX12_syncReply_65 : decode cX12_syncReply 65 = .ok (.aload_n 0, 1) := by decide +kernel
theorem dX12_syncReply_66 : decode cX12_syncReply 66 = .ok (.getfield 130, 3) := by decide +kernel
theorem dX12_syncReply_69 : decode cX12_syncReply 69 = .ok (.iload_n 1, 1) := by decide +kernel
theorem dX12_syncReply_70 : decode cX12_syncReply 70 = .ok (.iaload, 1) := by decide +kernel
theorem dX12_syncReply_71 : decode cX12_syncReply 71 = .ok (.invokestatic 302, 3) := by decide +kernel
theorem dX12_syncReply_74 : decode cX12_syncReply 74 = .ok (.aload_n 0, 1) := by decide +kernel
theorem dX12_syncReply_75 : decode cX12_syncReply 75 = .ok (.getfield 226, 3) := by decide +kernel
theorem dX12_syncReply_78 : decode cX12_syncReply 78 = .ok (.if_icmp .ge 4, 3) := by decide +kernel
theorem dX12_syncReply_81 : decode cX12_syncReply 81 = .ok (.return_, 1) := by decide +kernel
theorem dX12_syncReply_82 : decode cX12_syncReply 82 = .ok (.aload_n 0, 1) := by decide +kernel
theorem dX12_syncReply_83 : decode cX12_syncReply 83 = .ok (.getfield 109, 3) := by decide +kernel
theorem dX12_syncReply_86 : decode cX12_syncReply 86 = .ok (.iload_n 1, 1) := by decide +kernel
theorem dX12_syncReply_87 : decode cX12_syncReply 87 = .ok (.iload_n 3, 1) := by decide +kernel
theorem dX12_syncReply_88 : decode cX12_syncReply 88 = .ok (.iastore, 1) := by decide +kernel
theorem dX12_syncReply_89 : decode cX12_syncReply 89 = .ok (.aload_n 0, 1) := by decide +kernel
theorem dX12_syncReply_90 : decode cX12_syncReply 90 = .ok (.bipush 7, 2) := by decide +kernel
theorem dX12_syncReply_92 : decode cX12_syncReply 92 = .ok (.iload_n 1, 1) := by decide +kernel
theorem dX12_syncReply_93 : decode cX12_syncReply 93 = .ok (.iload_n 3, 1) := by decide +kernel
theorem dX12_syncReply_94 : decode cX12_syncReply 94 = .ok (.invokevirtual 273, 3) := by decide +kernel
theorem dX12_syncReply_97 : decode cX12_syncReply 97 = .ok (.return_, 1) := by decide +kernel
theorem dX12_follow_0 : decode cX12_follow 0 = .ok (.iload_n 2, 1) := by decide +kernel
theorem dX12_follow_1 : decode cX12_follow 1 = .ok (.aload_n 0, 1) := by decide +kernel
theorem dX12_follow_2 : decode cX12_follow 2 = .ok (.getfield 88, 3) := by decide +kernel
theorem dX12_follow_5 : decode cX12_follow 5 = .ok (.iload_n 1, 1) := by decide +kernel
theorem dX12_follow_6 : decode cX12_follow 6 = .ok (.iaload, 1) := by decide +kernel
theorem dX12_follow_7 : decode cX12_follow 7 = .ok (.if_icmp .ne 13, 3) := by decide +kernel
theorem dX12_follow_10 : decode cX12_follow 10 = .ok (.iload_n 3, 1) := by decide +kernel
theorem dX12_follow_11 : decode cX12_follow 11 = .ok (.aload_n 0, 1) := by decide +kernel
theorem dX12_follow_12 : decode cX12_follow 12 = .ok (.getfield 91, 3) := by decide +kernel
theorem dX12_follow_15 : decode cX12_follow 15 = .ok (.iload_n 1, 1) := by decide +kernel
theorem dX12_follow_16 : decode cX12_follow 16 = .ok (.iaload, 1) := by decide +kernel
theorem dX12_follow_17 : decode cX12_follow 17 = .ok (.if_icmp .eq 23, 3) := by decide +kernel
theorem dX12_follow_20 : decode cX12_follow 20 = .ok (.iload_n 2, 1) := by decide +kernel
theorem dX12_follow_21 : decode cX12_follow 21 = .ok (.iload_n 3, 1) := by decide +kernel
theorem dX12_follow_22 : decode cX12_follow 22 = .ok (.aload_n 0, 1) := by decide +kernel
theorem dX12_follow_23 : decode cX12_follow 23 = .ok (.getfield 88, 3) := by decide +kernel
theorem dX12_follow_26 : decode cX12_follow 26 = .ok (.iload_n 1, 1) := by decide +kernel
theorem dX12_follow_27 : decode cX12_follow 27 = .ok (.iaload, 1) := by decide +kernel
theorem dX12_follow_28 : decode cX12_follow 28 = .ok (.aload_n 0, 1) := by decide +kernel
theorem dX12_follow_29 : decode cX12_follow 29 = .ok (.getfield 91, 3) := by decide +kernel
theorem dX12_follow_32 : decode cX12_follow 32 = .ok (.iload_n 1, 1) := by decide +kernel
theorem dX12_follow_33 : decode cX12_follow 33 = .ok (.iaload, 1) := by decide +kernel
theorem dX12_follow_34 : decode cX12_follow 34 = .ok (.invokestatic 321, 3) := by decide +kernel
theorem dX12_follow_37 : decode cX12_follow 37 = .ok (.ifCond .eq 4, 3) := by decide +kernel
theorem dX12_follow_40 : decode cX12_follow 40 = .ok (.return_, 1) := by decide +kernel
theorem dX12_follow_41 : decode cX12_follow 41 = .ok (.aload_n 0, 1) := by decide +kernel
theorem dX12_follow_42 : decode cX12_follow 42 = .ok (.iload_n 1, 1) := by decide +kernel
theorem dX12_follow_43 : decode cX12_follow 43 = .ok (.iload_n 2, 1) := by decide +kernel
theorem dX12_follow_44 : decode cX12_follow 44 = .ok (.aload_n 0, 1) := by decide +kernel
theorem dX12_follow_45 : decode cX12_follow 45 = .ok (.getfield 88, 3) := by decide +kernel
theorem dX12_follow_48 : decode cX12_follow 48 = .ok (.iload_n 1, 1) := by decide +kernel
theorem dX12_follow_49 : decode cX12_follow 49 = .ok (.iaload, 1) := by decide +kernel
theorem dX12_follow_50 : decode cX12_follow 50 = .ok (.if_icmp .le 7, 3) := by decide +kernel
theorem dX12_follow_53 : decode cX12_follow 53 = .ok (.iload_n 2, 1) := by decide +kernel
theorem dX12_follow_54 : decode cX12_follow 54 = .ok (.goto 9, 3) := by decide +kernel
theorem dX12_follow_57 : decode cX12_follow 57 = .ok (.aload_n 0, 1) := by decide +kernel
theorem dX12_follow_58 : decode cX12_follow 58 = .ok (.getfield 88, 3) := by decide +kernel
theorem dX12_follow_61 : decode cX12_follow 61 = .ok (.iload_n 1, 1) := by decide +kernel
theorem dX12_follow_62 : decode cX12_follow 62 = .ok (.iaload, 1) := by decide +kernel
theorem dX12_follow_63 : decode cX12_follow 63 = .ok (.iload_n 3, 1) := by decide +kernel
theorem dX12_follow_64 : decode cX12_follow 64 = .ok (.aload_n 0, 1) := by decide +kernel
theorem dX12_follow_65 : decode cX12_follow 65 = .ok (.getfield 91, 3) := by decide +kernel
theorem dX12_follow_68 : decode cX12_follow 68 = .ok (.iload_n 1, 1) := by decide +kernel
theorem dX12_follow_69 : decode cX12_follow 69 = .ok (.iaload, 1) := by decide +kernel
theorem dX12_follow_70 : decode cX12_follow 70 = .ok (.if_icmp .le 7, 3) := by decide +kernel
theorem dX12_follow_73 : decode cX12_follow 73 = .ok (.iload_n 3, 1) := by decide +kernel
theorem dX12_follow_74 : decode cX12_follow 74 = .ok (.goto 9, 3) := by decide +kernel
theorem dX12_follow_77 : decode cX12_follow 77 = .ok (.aload_n 0, 1) := by decide +kernel
theorem dX12_follow_78 : decode cX12_follow 78 = .ok (.getfield 91, 3) := by decide +kernel
theorem dX12_follow_81 : decode cX12_follow 81 = .ok (.iload_n 1, 1) := by decide +kernel
theorem dX12_follow_82 : decode cX12_follow 82 = .ok (.iaload, 1) := by decide +kernel
theorem dX12_follow_83 : decode cX12_follow 83 = .ok (.invokevirtual 312, 3) := by decide +kernel
theorem dX12_follow_86 : decode cX12_follow 86 = .ok (.return_, 1) := by decide +kernel
theorem dX12_turned_0 : decode cX12_turned 0 = .ok (.aload_n 0, 1) := by decide +kernel
theorem dX12_turned_1 : decode cX12_turned 1 = .ok (.iload_n 1, 1) := by decide +kernel
theorem dX12_turned_2 : decode cX12_turned 2 = .ok (.iload_n 3, 1) := by decide +kernel
theorem dX12_turned_3 : decode cX12_turned 3 = .ok (.iload 4, 2) := by decide +kernel
theorem dX12_turned_5 : decode cX12_turned 5 = .ok (.invokevirtual 325, 3) := by decide +kernel
theorem dX12_turned_8 : decode cX12_turned 8 = .ok (.iload_n 3, 1) := by decide +kernel
theorem dX12_turned_9 : decode cX12_turned 9 = .ok (.aload_n 0, 1) := by decide +kernel
theorem dX12_turned_10 : decode cX12_turned 10 = .ok (.getfield 88, 3) := by decide +kernel
theorem dX12_turned_13 : decode cX12_turned 13 = .ok (.iload_n 1, 1) := by decide +kernel
theorem dX12_turned_14 : decode cX12_turned 14 = .ok (.iaload, 1) := by decide +kernel
theorem dX12_turned_15 : decode cX12_turned 15 = .ok (.if_icmp .ne 22, 3) := by decide +kernel
theorem dX12_turned_18 : decode cX12_turned 18 = .ok (.iload 4, 2) := by decide +kernel
theorem dX12_turned_20 : decode cX12_turned 20 = .ok (.aload_n 0, 1) := by decide +kernel
theorem dX12_turned_21 : decode cX12_turned 21 = .ok (.getfield 91, 3) := by decide +kernel
theorem dX12_turned_24 : decode cX12_turned 24 = .ok (.iload_n 1, 1) := by decide +kernel
theorem dX12_turned_25 : decode cX12_turned 25 = .ok (.iaload, 1) := by decide +kernel
theorem dX12_turned_26 : decode cX12_turned 26 = .ok (.if_icmp .ne 11, 3) := by decide +kernel
theorem dX12_turned_29 : decode cX12_turned 29 = .ok (.aload_n 0, 1) := by decide +kernel
theorem dX12_turned_30 : decode cX12_turned 30 = .ok (.iload_n 1, 1) := by decide +kernel
theorem dX12_turned_31 : decode cX12_turned 31 = .ok (.invokevirtual 248, 3) := by decide +kernel
theorem dX12_turned_34 : decode cX12_turned 34 = .ok (.ifCond .ne 4, 3) := by decide +kernel
theorem dX12_turned_37 : decode cX12_turned 37 = .ok (.return_, 1) := by decide +kernel
theorem dX12_turned_38 : decode cX12_turned 38 = .ok (.aload_n 0, 1) := by decide +kernel
theorem dX12_turned_39 : decode cX12_turned 39 = .ok (.getfield 94, 3) := by decide +kernel
theorem dX12_turned_42 : decode cX12_turned 42 = .ok (.iload_n 1, 1) := by decide +kernel
theorem dX12_turned_43 : decode cX12_turned 43 = .ok (.iaload, 1) := by decide +kernel
theorem dX12_turned_44 : decode cX12_turned 44 = .ok (.iconst 2, 1) := by decide +kernel
theorem dX12_turned_45 : decode cX12_turned 45 = .ok (.if_icmp .eq 28, 3) := by decide +kernel
theorem dX12_turned_48 : decode cX12_turned 48 = .ok (.aload_n 0, 1) := by decide +kernel
theorem dX12_turned_49 : decode cX12_turned 49 = .ok (.aload_n 0, 1) := by decide +kernel
theorem dX12_turned_50 : decode cX12_turned 50 = .ok (.bipush 10, 2) := by decide +kernel
theorem dX12_turned_52 : decode cX12_turned 52 = .ok (.iload_n 1, 1) := by decide +kernel
theorem dX12_turned_53 : decode cX12_turned 53 = .ok (.iload_n 2, 1) := by decide +kernel
theorem dX12_turned_54 : decode cX12_turned 54 = .ok (.iload_n 3, 1) := by decide +kernel
theorem dX12_turned_55 : decode cX12_turned 55 = .ok (.iload 4, 2) := by decide +kernel
theorem dX12_turned_57 : decode cX12_turned 57 = .ok (.iconst 0, 1) := by decide +kernel
theorem dX12_turned_58 : decode cX12_turned 58 = .ok (.iconst 0, 1) := by decide +kernel
theorem dX12_turned_59 : decode cX12_turned 59 = .ok (.invokevirtual 241, 3) := by decide +kernel
theorem dX12_turned_62 : decode cX12_turned 62 = .ok (.iload_n 1, 1) := by decide +kernel
theorem dX12_turned_63 : decode cX12_turned 63 = .ok (.aload_n 0, 1) := by decide +kernel
theorem dX12_turned_64 : decode cX12_turned 64 = .ok (.getfield 103, 3) := by decide +kernel
theorem dX12_turned_67 : decode cX12_turned 67 = .ok (.iload_n 1, 1) := by decide +kernel
theorem dX12_turned_68 : decode cX12_turned 68 = .ok (.iaload, 1) := by decide +kernel
theorem dX12_turned_69 : decode cX12_turned 69 = .ok (.invokevirtual 277, 3) := by decide +kernel
theorem dX12_turned_72 : decode cX12_turned 72 = .ok (.return_, 1) := by decide +kernel
theorem dX12_turned_73 : decode cX12_turned 73 = .ok (.bipush 7, 2) := by decide +kernel
theorem dX12_turned_75 : decode cX12_turned 75 = .ok (.iload_n 1, 1) := by decide +kernel
theorem dX12_turned_76 : decode cX12_turned 76 = .ok (.imul, 1) := by decide +kernel
theorem dX12_turned_77 : decode cX12_turned 77 = .ok (.iload_n 2, 1) := by decide +kernel
theorem dX12_turned_78 : decode cX12_turned 78 = .ok (.iadd, 1) := by decide +kernel
theorem dX12_turned_79 : decode cX12_turned 79 = .ok (.istore 9, 2) := by decide +kernel
theorem dX12_turned_81 : decode cX12_turned 81 = .ok (.aload_n 0, 1) := by decide +kernel
theorem dX12_turned_82 : decode cX12_turned 82 = .ok (.getfield 136, 3) := by decide +kernel
theorem dX12_turned_85 : decode cX12_turned 85 = .ok (.iload_n 1, 1) := by decide +kernel
theorem dX12_turned_86 : decode cX12_turned 86 = .ok (.dup2, 1) := by decide +kernel
theorem dX12_turned_87 : decode cX12_turned 87 = .ok (.iaload, 1) := by decide +kernel
theorem dX12_turned_88 : decode cX12_turned 88 = .ok (.iconst 1, 1) := by decide +kernel
theorem dX12_turned_89 : decode cX12_turned 89 = .ok (.iload_n 2, 1) := by decide +kernel
theorem dX12_turned_90 : decode cX12_turned 90 = .ok (.ishl, 1) := by decide +kernel
theorem dX12_turned_91 : decode cX12_turned 91 = .ok (.ior, 1) := by decide +kernel
theorem dX12_turned_92 : decode cX12_turned 92 = .ok (.iastore, 1) := by decide +kernel
theorem dX12_turned_93 : decode cX12_turned 93 = .ok (.aload_n 0, 1) := by decide +kernel
theorem dX12_turned_94 : decode cX12_turned 94 = .ok (.getfield 139, 3) := by decide +kernel
theorem dX12_turned_97 : decode cX12_turned 97 = .ok (.iload 9, 2) := by decide +kernel
theorem dX12_turned_99 : decode cX12_turned 99 = .ok (.iload 5, 2) := by decide +kernel
theorem dX12_turned_101 : decode cX12_turned 101 = .ok (.iastore, 1) := by decide +kernel
theorem dX12_turned_102 : decode cX12_turned 102 = .ok (.aload_n 0, 1) := by decide +kernel
theorem dX12_turned_103 : decode cX12_turned 103 = .ok (.getfield 142, 3) := by decide +kernel
theorem dX12_turned_106 : decode cX12_turned 106 = .ok (.iload 9, 2) := by decide +kernel
theorem dX12_turned_108 : decode cX12_turned 108 = .ok (.iload 6, 2) := by decide +kernel
theorem dX12_turned_110 : decode cX12_turned 110 = .ok (.iastore, 1) := by decide +kernel
theorem dX12_turned_111 : decode cX12_turned 111 = .ok (.aload_n 0, 1) := by decide +kernel
theorem dX12_turned_112 : decode cX12_turned 112 = .ok (.getfield 145, 3) := by decide +kernel
theorem dX12_turned_115 : decode cX12_turned 115 = .ok (.iload 9, 2) := by decide +kernel
theorem dX12_turned_117 : decode cX12_turned 117 = .ok (.iload 7, 2) := by decide +kernel
theorem dX12_turned_119 : decode cX12_turned 119 = .ok (.iastore, 1) := by decide +kernel
theorem dX12_turned_120 : decode cX12_turned 120 = .ok (.aload_n 0, 1) := by decide +kernel
theorem dX12_turned_121 : decode cX12_turned 121 = .ok (.getfield 148, 3) := by decide +kernel
theorem dX12_turned_124 : decode cX12_turned 124 = .ok (.iload 9, 2) := by decide +kernel
theorem dX12_turned_126 : decode cX12_turned 126 = .ok (.iload 8, 2) := by decide +kernel
theorem dX12_turned_128 : decode cX12_turned 128 = .ok (.iastore, 1) := by decide +kernel
theorem dX12_turned_129 : decode cX12_turned 129 = .ok (.iconst 0, 1) := by decide +kernel
theorem dX12_turned_130 : decode cX12_turned 130 = .ok (.istore 10, 2) := by decide +kernel
theorem dX12_turned_132 : decode cX12_turned 132 = .ok (.iload 10, 2) := by decide +kernel
theorem dX12_turned_134 : decode cX12_turned 134 = .ok (.iload 8, 2) := by decide +kernel
theorem dX12_turned_136 : decode cX12_turned 136 = .ok (.if_icmp .ge 29, 3) := by decide +kernel
theorem dX12_turned_139 : decode cX12_turned 139 = .ok (.aload_n 0, 1) := by decide +kernel
theorem dX12_turned_140 : decode cX12_turned 140 = .ok (.getfield 151, 3) := by decide +kernel
theorem dX12_turned_143 : decode cX12_turned 143 = .ok (.bipush 100, 2) := by decide +kernel
theorem dX12_turned_145 : decode cX12_turned 145 = .ok (.iload 9, 2) := by decide +kernel
theorem dX12_turned_147 : decode cX12_turned 147 = .ok (.imul, 1) := by decide +kernel
theorem dX12_turned_148 : decode cX12_turned 148 = .ok (.iload 10, 2) := by decide +kernel
theorem dX12_turned_150 : decode cX12_turned 150 = .ok (.iadd, 1) := by decide +kernel
theorem dX12_turned_151 : decode cX12_turned 151 = .ok (.aload_n 0, 1) := by decide +kernel
theorem dX12_turned_152 : decode cX12_turned 152 = .ok (.getfield 157, 3) := by decide +kernel
theorem dX12_turned_155 : decode cX12_turned 155 = .ok (.iload 10, 2) := by decide +kernel
theorem dX12_turned_157 : decode cX12_turned 157 = .ok (.iaload, 1) := by decide +kernel
theorem dX12_turned_158 : decode cX12_turned 158 = .ok (.iastore, 1) := by decide +kernel
theorem dX12_turned_159 : decode cX12_turned 159 = .ok (.iinc 10 1, 3) := by decide +kernel
theorem dX12_turned_162 : decode cX12_turned 162 = .ok (.goto (-30), 3) := by decide +kernel
theorem dX12_turned_165 : decode cX12_turned 165 = .ok (.aload_n 0, 1) := by decide +kernel
theorem dX12_turned_166 : decode cX12_turned 166 = .ok (.iload_n 1, 1) := by decide +kernel
theorem dX12_turned_167 : decode cX12_turned 167 = .ok (.invokevirtual 328, 3) := by decide +kernel
theorem dX12_turned_170 : decode cX12_turned 170 = .ok (.return_, 1) := by decide +kernel
theorem dX12_start_0 : decode cX12_start 0 = .ok (.iload_n 2, 1) := by decide +kernel
theorem dX12_start_1 : decode cX12_start 1 = .ok (.aload_n 0, 1) := by decide +kernel
theorem dX12_start_2 : decode cX12_start 2 = .ok (.getfield 88, 3) := by decide +kernel
theorem dX12_start_5 : decode cX12_start 5 = .ok (.iload_n 1, 1) := by decide +kernel
theorem dX12_start_6 : decode cX12_start 6 = .ok (.iaload, 1) := by decide +kernel
theorem dX12_start_7 : decode cX12_start 7 = .ok (.if_icmp .ne 17, 3) := by decide +kernel
theorem dX12_start_10 : decode cX12_start 10 = .ok (.iload_n 3, 1) := by decide +kernel
theorem dX12_start_11 : decode cX12_start 11 = .ok (.aload_n 0, 1) := by decide +kernel
theorem dX12_start_12 : decode cX12_start 12 = .ok (.getfield 91, 3) := by decide +kernel
theorem dX12_start_15 : decode cX12_start 15 = .ok (.iload_n 1, 1) := by decide +kernel
theorem dX12_start_16 : decode cX12_start 16 = .ok (.iaload, 1) := by decide +kernel
theorem dX12_start_17 : decode cX12_start 17 = .ok (.if_icmp .ne 7, 3) := by decide +kernel
theorem dX12_start_20 : decode cX12_start 20 = .ok (.iconst 1, 1) := by decide +kernel
theorem dX12_start_21 : decode cX12_start 21 = .ok (.goto 4, 3) := by decide +kernel
theorem dX12_start_24 : decode cX12_start 24 = .ok (.iconst 0, 1) := by decide +kernel
theorem dX12_start_25 : decode cX12_start 25 = .ok (.istore 6, 2) := by decide +kernel
theorem dX12_start_27 : decode cX12_start 27 = .ok (.aload_n 0, 1) := by decide +kernel
theorem dX12_start_28 : decode cX12_start 28 = .ok (.getfield 88, 3) := by decide +kernel
theorem dX12_start_31 : decode cX12_start 31 = .ok (.iload_n 1, 1) := by decide +kernel
theorem dX12_start_32 : decode cX12_start 32 = .ok (.iaload, 1) := by decide +kernel
theorem dX12_start_33 : decode cX12_start 33 = .ok (.aload_n 0, 1) := by decide +kernel
theorem dX12_start_34 : decode cX12_start 34 = .ok (.getfield 91, 3) := by decide +kernel
theorem dX12_start_37 : decode cX12_start 37 = .ok (.iload_n 1, 1) := by decide +kernel
theorem dX12_start_38 : decode cX12_start 38 = .ok (.iaload, 1) := by decide +kernel
theorem dX12_start_39 : decode cX12_start 39 = .ok (.iload_n 2, 1) := by decide +kernel
theorem dX12_start_40 : decode cX12_start 40 = .ok (.iload_n 3, 1) := by decide +kernel
theorem dX12_start_41 : decode cX12_start 41 = .ok (.invokestatic 321, 3) := by decide +kernel
theorem dX12_start_44 : decode cX12_start 44 = .ok (.ifCond .ne 19, 3) := by decide +kernel
theorem dX12_start_47 : decode cX12_start 47 = .ok (.iload 6, 2) := by decide +kernel
theorem dX12_start_49 : decode cX12_start 49 = .ok (.ifCond .eq 13, 3) := by decide +kernel
theorem dX12_start_52 : decode cX12_start 52 = .ok (.aload_n 0, 1) := by decide +kernel
theorem dX12_start_53 : decode cX12_start 53 = .ok (.getfield 94, 3) := by decide +kernel
theorem dX12_start_56 : decode cX12_start 56 = .ok (.iload_n 1, 1) := by decide +kernel
theorem dX12_start_57 : decode cX12_start 57 = .ok (.iaload, 1) := by decide +kernel
theorem dX12_start_58 : decode cX12_start 58 = .ok (.iconst 2, 1) := by decide +kernel
theorem dX12_start_59 : decode cX12_start 59 = .ok (.if_icmp .eq 4, 3) := by decide +kernel
theorem dX12_start_62 : decode cX12_start 62 = .ok (.return_, 1) := by decide +kernel
theorem dX12_start_63 : decode cX12_start 63 = .ok (.aload_n 0, 1) := by decide +kernel
theorem dX12_start_64 : decode cX12_start 64 = .ok (.getfield 88, 3) := by decide +kernel
theorem dX12_start_67 : decode cX12_start 67 = .ok (.iload_n 1, 1) := by decide +kernel
theorem dX12_start_68 : decode cX12_start 68 = .ok (.iload_n 2, 1) := by decide +kernel
theorem dX12_start_69 : decode cX12_start 69 = .ok (.iastore, 1) := by decide +kernel
theorem dX12_start_70 : decode cX12_start 70 = .ok (.aload_n 0, 1) := by decide +kernel
theorem dX12_start_71 : decode cX12_start 71 = .ok (.getfield 91, 3) := by decide +kernel
theorem dX12_start_74 : decode cX12_start 74 = .ok (.iload_n 1, 1) := by decide +kernel
theorem dX12_start_75 : decode cX12_start 75 = .ok (.iload_n 3, 1) := by decide +kernel
theorem dX12_start_76 : decode cX12_start 76 = .ok (.iastore, 1) := by decide +kernel
theorem dX12_start_77 : decode cX12_start 77 = .ok (.aload_n 0, 1) := by decide +kernel
theorem dX12_start_78 : decode cX12_start 78 = .ok (.getfield 106, 3) := by decide +kernel
theorem dX12_start_81 : decode cX12_start 81 = .ok (.iload_n 1, 1) := by decide +kernel
theorem dX12_start_82 : decode cX12_start 82 = .ok (.iload 4, 2) := by decide +kernel
theorem dX12_start_84 : decode cX12_start 84 = .ok (.iastore, 1) := by decide +kernel
theorem dX12_start_85 : decode cX12_start 85 = .ok (.aload_n 0, 1) := by decide +kernel
theorem dX12_start_86 : decode cX12_start 86 = .ok (.getfield 103, 3) := by decide +kernel
theorem dX12_start_89 : decode cX12_start 89 = .ok (.iload_n 1, 1) := by decide +kernel
theorem dX12_start_90 : decode cX12_start 90 = .ok (.iload 5, 2) := by decide +kernel
theorem dX12_start_92 : decode cX12_start 92 = .ok (.iastore, 1) := by decide +kernel
theorem dX12_start_93 : decode cX12_start 93 = .ok (.iconst 0, 1) := by decide +kernel
theorem dX12_start_94 : decode cX12_start 94 = .ok (.istore 7, 2) := by decide +kernel
theorem dX12_start_96 : decode cX12_start 96 = .ok (.iload 7, 2) := by decide +kernel
theorem dX12_start_98 : decode cX12_start 98 = .ok (.iload 5, 2) := by decide +kernel
theorem dX12_start_100 : decode cX12_start 100 = .ok (.if_icmp .ge 28, 3) := by decide +kernel
theorem dX12_start_103 : decode cX12_start 103 = .ok (.aload_n 0, 1) := by decide +kernel
theorem dX12_start_104 : decode cX12_start 104 = .ok (.getfield 115, 3) := by decide +kernel
theorem dX12_start_107 : decode cX12_start 107 = .ok (.bipush 100, 2) := by decide +kernel
theorem dX12_start_109 : decode cX12_start 109 = .ok (.iload_n 1, 1) := by decide +kernel
theorem dX12_start_110 : decode cX12_start 110 = .ok (.imul, 1) := by decide +kernel
theorem dX12_start_111 : decode cX12_start 111 = .ok (.iload 7, 2) := by decide +kernel
theorem dX12_start_113 : decode cX12_start 113 = .ok (.iadd, 1) := by decide +kernel
theorem dX12_start_114 : decode cX12_start 114 = .ok (.aload_n 0, 1) := by decide +kernel
theorem dX12_start_115 : decode cX12_start 115 = .ok (.getfield 157, 3) := by decide +kernel
theorem dX12_start_118 : decode cX12_start 118 = .ok (.iload 7, 2) := by decide +kernel
theorem dX12_start_120 : decode cX12_start 120 = .ok (.iaload, 1) := by decide +kernel
theorem dX12_start_121 : decode cX12_start 121 = .ok (.iastore, 1) := by decide +kernel
theorem dX12_start_122 : decode cX12_start 122 = .ok (.iinc 7 1, 3) := by decide +kernel
theorem dX12_start_125 : decode cX12_start 125 = .ok (.goto (-29), 3) := by decide +kernel
theorem dX12_start_128 : decode cX12_start 128 = .ok (.aload_n 0, 1) := by decide +kernel
theorem dX12_start_129 : decode cX12_start 129 = .ok (.iload_n 1, 1) := by decide +kernel
theorem dX12_start_130 : decode cX12_start 130 = .ok (.invokevirtual 309, 3) := by decide +kernel
theorem dX12_start_133 : decode cX12_start 133 = .ok (.return_, 1) := by decide +kernel
theorem dX12_forgetFirst_0 : decode cX12_forgetFirst 0 = .ok (.bipush 64, 2) := by decide +kernel
theorem dX12_forgetFirst_2 : decode cX12_forgetFirst 2 = .ok (.iload_n 1, 1) := by decide +kernel
theorem dX12_forgetFirst_3 : decode cX12_forgetFirst 3 = .ok (.imul, 1) := by decide +kernel
theorem dX12_forgetFirst_4 : decode cX12_forgetFirst 4 = .ok (.istore_n 2, 1) := by decide +kernel
theorem dX12_forgetFirst_5 : decode cX12_forgetFirst 5 = .ok (.iload_n 2, 1) := by decide +kernel
theorem dX12_forgetFirst_6 : decode cX12_forgetFirst 6 = .ok (.bipush 64, 2) := by decide +kernel
theorem dX12_forgetFirst_8 : decode cX12_forgetFirst 8 = .ok (.iload_n 1, 1) := by decide +kernel
theorem dX12_forgetFirst_9 : decode cX12_forgetFirst 9 = .ok (.imul, 1) := by decide +kernel
theorem dX12_forgetFirst_10 : decode cX12_forgetFirst 10 = .ok (.bipush 64, 2) := by decide +kernel
theorem dX12_forgetFirst_12 : decode cX12_forgetFirst 12 = .ok (.iadd, 1) := by decide +kernel
theorem dX12_forgetFirst_13 : decode cX12_forgetFirst 13 = .ok (.iconst 1, 1) := by decide +kernel
theorem dX12_forgetFirst_14 : decode cX12_forgetFirst 14 = .ok (.isub, 1) := by decide +kernel
theorem dX12_forgetFirst_15 : decode cX12_forgetFirst 15 = .ok (.if_icmp .ge 79, 3) := by decide +kernel
theorem dX12_forgetFirst_18 : decode cX12_forgetFirst 18 = .ok (.aload_n 0, 1) := by decide +kernel
theorem dX12_forgetFirst_19 : decode cX12_forgetFirst 19 = .ok (.getfield 184, 3) := by decide +kernel
theorem dX12_forgetFirst_22 : decode cX12_forgetFirst 22 = .ok (.iload_n 2, 1) := by decide +kernel
theorem dX12_forgetFirst_23 : decode cX12_forgetFirst 23 = .ok (.aload_n 0, 1) := by decide +kernel
theorem dX12_forgetFirst_24 : decode cX12_forgetFirst 24 = .ok (.getfield 184, 3) := by decide +kernel
theorem dX12_forgetFirst_27 : decode cX12_forgetFirst 27 = .ok (.iload_n 2, 1) := by decide +kernel
theorem dX12_forgetFirst_28 : decode cX12_forgetFirst 28 = .ok (.iconst 1, 1) := by decide +kernel
theorem dX12_forgetFirst_29 : decode cX12_forgetFirst 29 = .ok (.iadd, 1) := by decide +kernel
theorem dX12_forgetFirst_30 : decode cX12_forgetFirst 30 = .ok (.iaload, 1) := by decide +kernel
theorem dX12_forgetFirst_31 : decode cX12_forgetFirst 31 = .ok (.iastore, 1) := by decide +kernel
theorem dX12_forgetFirst_32 : decode cX12_forgetFirst 32 = .ok (.aload_n 0, 1) := by decide +kernel
theorem dX12_forgetFirst_33 : decode cX12_forgetFirst 33 = .ok (.getfield 187, 3) := by decide +kernel
theorem dX12_forgetFirst_36 : decode cX12_forgetFirst 36 = .ok (.iload_n 2, 1) := by decide +kernel
theorem dX12_forgetFirst_37 : decode cX12_forgetFirst 37 = .ok (.aload_n 0, 1) := by decide +kernel
theorem dX12_forgetFirst_38 : decode cX12_forgetFirst 38 = .ok (.getfield 187, 3) := by decide +kernel
theorem dX12_forgetFirst_41 : decode cX12_forgetFirst 41 = .ok (.iload_n 2, 1) := by decide +kernel
theorem dX12_forgetFirst_42 : decode cX12_forgetFirst 42 = .ok (.iconst 1, 1) := by decide +kernel
theorem dX12_forgetFirst_43 : decode cX12_forgetFirst 43 = .ok (.iadd, 1) := by decide +kernel
theorem dX12_forgetFirst_44 : decode cX12_forgetFirst 44 = .ok (.iaload, 1) := by decide +kernel
theorem dX12_forgetFirst_45 : decode cX12_forgetFirst 45 = .ok (.iastore, 1) := by decide +kernel
theorem dX12_forgetFirst_46 : decode cX12_forgetFirst 46 = .ok (.aload_n 0, 1) := by decide +kernel
theorem dX12_forgetFirst_47 : decode cX12_forgetFirst 47 = .ok (.getfield 190, 3) := by decide +kernel
theorem dX12_forgetFirst_50 : decode cX12_forgetFirst 50 = .ok (.iload_n 2, 1) := by decide +kernel
theorem dX12_forgetFirst_51 : decode cX12_forgetFirst 51 = .ok (.aload_n 0, 1) := by decide +kernel
theorem dX12_forgetFirst_52 : decode cX12_forgetFirst 52 = .ok (.getfield 190, 3) := by decide +kernel
theorem dX12_forgetFirst_55 : decode cX12_forgetFirst 55 = .ok (.iload_n 2, 1) := by decide +kernel
theorem dX12_forgetFirst_56 : decode cX12_forgetFirst 56 = .ok (.iconst 1, 1) := by decide +kernel
theorem dX12_forgetFirst_57 : decode cX12_forgetFirst 57 = .ok (.iadd, 1) := by decide +kernel
theorem dX12_forgetFirst_58 : decode cX12_forgetFirst 58 = .ok (.iaload, 1) := by decide +kernel
theorem dX12_forgetFirst_59 : decode cX12_forgetFirst 59 = .ok (.iastore, 1) := by decide +kernel
theorem dX12_forgetFirst_60 : decode cX12_forgetFirst 60 = .ok (.aload_n 0, 1) := by decide +kernel
theorem dX12_forgetFirst_61 : decode cX12_forgetFirst 61 = .ok (.getfield 193, 3) := by decide +kernel
theorem dX12_forgetFirst_64 : decode cX12_forgetFirst 64 = .ok (.iload_n 2, 1) := by decide +kernel
theorem dX12_forgetFirst_65 : decode cX12_forgetFirst 65 = .ok (.aload_n 0, 1) := by decide +kernel
theorem dX12_forgetFirst_66 : decode cX12_forgetFirst 66 = .ok (.getfield 193, 3) := by decide +kernel
theorem dX12_forgetFirst_69 : decode cX12_forgetFirst 69 = .ok (.iload_n 2, 1) := by decide +kernel
theorem dX12_forgetFirst_70 : decode cX12_forgetFirst 70 = .ok (.iconst 1, 1) := by decide +kernel
theorem dX12_forgetFirst_71 : decode cX12_forgetFirst 71 = .ok (.iadd, 1) := by decide +kernel
theorem dX12_forgetFirst_72 : decode cX12_forgetFirst 72 = .ok (.iaload, 1) := by decide +kernel
theorem dX12_forgetFirst_73 : decode cX12_forgetFirst 73 = .ok (.iastore, 1) := by decide +kernel
theorem dX12_forgetFirst_74 : decode cX12_forgetFirst 74 = .ok (.aload_n 0, 1) := by decide +kernel
theorem dX12_forgetFirst_75 : decode cX12_forgetFirst 75 = .ok (.getfield 196, 3) := by decide +kernel
theorem dX12_forgetFirst_78 : decode cX12_forgetFirst 78 = .ok (.iload_n 2, 1) := by decide +kernel
theorem dX12_forgetFirst_79 : decode cX12_forgetFirst 79 = .ok (.aload_n 0, 1) := by decide +kernel
theorem dX12_forgetFirst_80 : decode cX12_forgetFirst 80 = .ok (.getfield 196, 3) := by decide +kernel
theorem dX12_forgetFirst_83 : decode cX12_forgetFirst 83 = .ok (.iload_n 2, 1) := by decide +kernel
theorem dX12_forgetFirst_84 : decode cX12_forgetFirst 84 = .ok (.iconst 1, 1) := by decide +kernel
theorem dX12_forgetFirst_85 : decode cX12_forgetFirst 85 = .ok (.iadd, 1) := by decide +kernel
theorem dX12_forgetFirst_86 : decode cX12_forgetFirst 86 = .ok (.iaload, 1) := by decide +kernel
theorem dX12_forgetFirst_87 : decode cX12_forgetFirst 87 = .ok (.iastore, 1) := by decide +kernel
theorem dX12_forgetFirst_88 : decode cX12_forgetFirst 88 = .ok (.iinc 2 1, 3) := by decide +kernel
theorem dX12_forgetFirst_91 : decode cX12_forgetFirst 91 = .ok (.goto (-86), 3) := by decide +kernel
theorem dX12_forgetFirst_94 : decode cX12_forgetFirst 94 = .ok (.aload_n 0, 1) := by decide +kernel
theorem dX12_forgetFirst_95 : decode cX12_forgetFirst 95 = .ok (.getfield 181, 3) := by decide +kernel
theorem dX12_forgetFirst_98 : decode cX12_forgetFirst 98 = .ok (.iload_n 1, 1) := by decide +kernel
theorem dX12_forgetFirst_99 : decode cX12_forgetFirst 99 = .ok (.bipush 63, 2) := by decide +kernel
theorem dX12_forgetFirst_101 : decode cX12_forgetFirst 101 = .ok (.iastore, 1) := by decide +kernel
theorem dX12_forgetFirst_102 : decode cX12_forgetFirst 102 = .ok (.bipush 64, 2) := by decide +kernel
theorem dX12_forgetFirst_104 : decode cX12_forgetFirst 104 = .ok (.iload_n 1, 1) := by decide +kernel
theorem dX12_forgetFirst_105 : decode cX12_forgetFirst 105 = .ok (.imul, 1) := by decide +kernel
theorem dX12_forgetFirst_106 : decode cX12_forgetFirst 106 = .ok (.bipush 64, 2) := by decide +kernel
theorem dX12_forgetFirst_108 : decode cX12_forgetFirst 108 = .ok (.iadd, 1) := by decide +kernel
theorem dX12_forgetFirst_109 : decode cX12_forgetFirst 109 = .ok (.iconst 1, 1) := by decide +kernel
theorem dX12_forgetFirst_110 : decode cX12_forgetFirst 110 = .ok (.isub, 1) := by decide +kernel
theorem dX12_forgetFirst_111 : decode cX12_forgetFirst 111 = .ok (.ireturn, 1) := by decide +kernel
theorem dX12_replied_0 : decode cX12_replied 0 = .ok (.aload_n 0, 1) := by decide +kernel
theorem dX12_replied_1 : decode cX12_replied 1 = .ok (.getfield 166, 3) := by decide +kernel
theorem dX12_replied_4 : decode cX12_replied 4 = .ok (.iload_n 1, 1) := by decide +kernel
theorem dX12_replied_5 : decode cX12_replied 5 = .ok (.iaload, 1) := by decide +kernel
theorem dX12_replied_6 : decode cX12_replied 6 = .ok (.iconst 1, 1) := by decide +kernel
theorem dX12_replied_7 : decode cX12_replied 7 = .ok (.if_icmp .ne 14, 3) := by decide +kernel
theorem dX12_replied_10 : decode cX12_replied 10 = .ok (.aload_n 0, 1) := by decide +kernel
theorem dX12_replied_11 : decode cX12_replied 11 = .ok (.getfield 163, 3) := by decide +kernel
theorem dX12_replied_14 : decode cX12_replied 14 = .ok (.iload_n 1, 1) := by decide +kernel
theorem dX12_replied_15 : decode cX12_replied 15 = .ok (.iaload, 1) := by decide +kernel
theorem dX12_replied_16 : decode cX12_replied 16 = .ok (.iload 6, 2) := by decide +kernel
theorem dX12_replied_18 : decode cX12_replied 18 = .ok (.if_icmp .eq 4, 3) := by decide +kernel
theorem dX12_replied_21 : decode cX12_replied 21 = .ok (.return_, 1) := by decide +kernel
theorem dX12_replied_22 : decode cX12_replied 22 = .ok (.bipush 64, 2) := by decide +kernel
theorem dX12_replied_24 : decode cX12_replied 24 = .ok (.iload_n 1, 1) := by decide +kernel
theorem dX12_replied_25 : decode cX12_replied 25 = .ok (.imul, 1) := by decide +kernel
theorem dX12_replied_26 : decode cX12_replied 26 = .ok (.istore 9, 2) := by decide +kernel
theorem dX12_replied_28 : decode cX12_replied 28 = .ok (.bipush 64, 2) := by decide +kernel
theorem dX12_replied_30 : decode cX12_replied 30 = .ok (.iload_n 1, 1) := by decide +kernel
theorem dX12_replied_31 : decode cX12_replied 31 = .ok (.imul, 1) := by decide +kernel
theorem dX12_replied_32 : decode cX12_replied 32 = .ok (.aload_n 0, 1) := by decide +kernel
theorem dX12_replied_33 : decode cX12_replied 33 = .ok (.getfield 181, 3) := by decide +kernel
theorem dX12_replied_36 : decode cX12_replied 36 = .ok (.iload_n 1, 1) := by decide +kernel
theorem dX12_replied_37 : decode cX12_replied 37 = .ok (.iaload, 1) := by decide +kernel
theorem dX12_replied_38 : decode cX12_replied 38 = .ok (.iadd, 1) := by decide +kernel
theorem dX12_replied_39 : decode cX12_replied 39 = .ok (.istore 10, 2) := by decide +kernel
theorem dX12_replied_41 : decode cX12_replied 41 = .ok (.iload 9, 2) := by decide +kernel
theorem dX12_replied_43 : decode cX12_replied 43 = .ok (.iload 10, 2) := by decide +kernel
theorem dX12_replied_45 : decode cX12_replied 45 = .ok (.if_icmp .ge 44, 3) := by decide +kernel
theorem dX12_replied_48 : decode cX12_replied 48 = .ok (.aload_n 0, 1) := by decide +kernel
theorem dX12_replied_49 : decode cX12_replied 49 = .ok (.getfield 184, 3) := by decide +kernel
theorem dX12_replied_52 : decode cX12_replied 52 = .ok (.iload 9, 2) := by decide +kernel
theorem dX12_replied_54 : decode cX12_replied 54 = .ok (.iaload, 1) := by decide +kernel
theorem dX12_replied_55 : decode cX12_replied 55 = .ok (.iload_n 3, 1) := by decide +kernel
theorem dX12_replied_56 : decode cX12_replied 56 = .ok (.if_icmp .ne 27, 3) := by decide +kernel
theorem dX12_replied_59 : decode cX12_replied 59 = .ok (.aload_n 0, 1) := by decide +kernel
theorem dX12_replied_60 : decode cX12_replied 60 = .ok (.getfield 187, 3) := by decide +kernel
theorem dX12_replied_63 : decode cX12_replied 63 = .ok (.iload 9, 2) := by decide +kernel
theorem dX12_replied_65 : decode cX12_replied 65 = .ok (.iaload, 1) := by decide +kernel
theorem dX12_replied_66 : decode cX12_replied 66 = .ok (.iload 4, 2) := by decide +kernel
theorem dX12_replied_68 : decode cX12_replied 68 = .ok (.if_icmp .ne 15, 3) := by decide +kernel
theorem dX12_replied_71 : decode cX12_replied 71 = .ok (.aload_n 0, 1) := by decide +kernel
theorem dX12_replied_72 : decode cX12_replied 72 = .ok (.getfield 190, 3) := by decide +kernel
theorem dX12_replied_75 : decode cX12_replied 75 = .ok (.iload 9, 2) := by decide +kernel
theorem dX12_replied_77 : decode cX12_replied 77 = .ok (.iaload, 1) := by decide +kernel
theorem dX12_replied_78 : decode cX12_replied 78 = .ok (.iload 5, 2) := by decide +kernel
theorem dX12_replied_80 : decode cX12_replied 80 = .ok (.if_icmp .eq 9, 3) := by decide +kernel
theorem dX12_replied_83 : decode cX12_replied 83 = .ok (.iinc 9 1, 3) := by decide +kernel
theorem dX12_replied_86 : decode cX12_replied 86 = .ok (.goto (-45), 3) := by decide +kernel
theorem dX12_replied_89 : decode cX12_replied 89 = .ok (.iload 9, 2) := by decide +kernel
theorem dX12_replied_91 : decode cX12_replied 91 = .ok (.iload 10, 2) := by decide +kernel
theorem dX12_replied_93 : decode cX12_replied 93 = .ok (.if_icmp .ne 65, 3) := by decide +kernel
theorem dX12_replied_96 : decode cX12_replied 96 = .ok (.aload_n 0, 1) := by decide +kernel
theorem dX12_replied_97 : decode cX12_replied 97 = .ok (.getfield 181, 3) := by decide +kernel
theorem dX12_replied_100 : decode cX12_replied 100 = .ok (.iload_n 1, 1) := by decide +kernel
theorem dX12_replied_101 : decode cX12_replied 101 = .ok (.iaload, 1) := by decide +kernel
theorem dX12_replied_102 : decode cX12_replied 102 = .ok (.bipush 64, 2) := by decide +kernel
theorem dX12_replied_104 : decode cX12_replied 104 = .ok (.if_icmp .ne 10, 3) := by decide +kernel
theorem dX12_replied_107 : decode cX12_replied 107 = .ok (.aload_n 0, 1) := by decide +kernel
theorem dX12_replied_108 : decode cX12_replied 108 = .ok (.iload_n 1, 1) := by decide +kernel
theorem dX12_replied_109 : decode cX12_replied 109 = .ok (.invokevirtual 331, 3) := by decide +kernel
theorem dX12_replied_112 : decode cX12_replied 112 = .ok (.istore 9, 2) := by decide +kernel
theorem dX12_replied_114 : decode cX12_replied 114 = .ok (.aload_n 0, 1) := by decide +kernel
theorem dX12_replied_115 : decode cX12_replied 115 = .ok (.getfield 181, 3) := by decide +kernel
theorem dX12_replied_118 : decode cX12_replied 118 = .ok (.iload_n 1, 1) := by decide +kernel
theorem dX12_replied_119 : decode cX12_replied 119 = .ok (.dup2, 1) := by decide +kernel
theorem dX12_replied_120 : decode cX12_replied 120 = .ok (.iaload, 1) := by decide +kernel
theorem dX12_replied_121 : decode cX12_replied 121 = .ok (.iconst 1, 1) := by decide +kernel
theorem dX12_replied_122 : decode cX12_replied 122 = .ok (.iadd, 1) := by decide +kernel
theorem dX12_replied_123 : decode cX12_replied 123 = .ok (.iastore, 1) := by decide +kernel
theorem dX12_replied_124 : decode cX12_replied 124 = .ok (.aload_n 0, 1) := by decide +kernel
theorem dX12_replied_125 : decode cX12_replied 125 = .ok (.getfield 184, 3) := by decide +kernel
theorem dX12_replied_128 : decode cX12_replied 128 = .ok (.iload 9, 2) := by decide +kernel
theorem dX12_replied_130 : decode cX12_replied 130 = .ok (.iload_n 3, 1) := by decide +kernel
theorem dX12_replied_131 : decode cX12_replied 131 = .ok (.iastore, 1) := by decide +kernel
theorem dX12_replied_132 : decode cX12_replied 132 = .ok (.aload_n 0, 1) := by decide +kernel
theorem dX12_replied_133 : decode cX12_replied 133 = .ok (.getfield 187, 3) := by decide +kernel
theorem dX12_replied_136 : decode cX12_replied 136 = .ok (.iload 9, 2) := by decide +kernel
theorem dX12_replied_138 : decode cX12_replied 138 = .ok (.iload 4, 2) := by decide +kernel
theorem dX12_replied_140 : decode cX12_replied 140 = .ok (.iastore, 1) := by decide +kernel
theorem dX12_replied_141 : decode cX12_replied 141 = .ok (.aload_n 0, 1) := by decide +kernel
theorem dX12_replied_142 : decode cX12_replied 142 = .ok (.getfield 190, 3) := by decide +kernel
theorem dX12_replied_145 : decode cX12_replied 145 = .ok (.iload 9, 2) := by decide +kernel
theorem dX12_replied_147 : decode cX12_replied 147 = .ok (.iload 5, 2) := by decide +kernel
theorem dX12_replied_149 : decode cX12_replied 149 = .ok (.iastore, 1) := by decide +kernel
theorem dX12_replied_150 : decode cX12_replied 150 = .ok (.aload_n 0, 1) := by decide +kernel
theorem dX12_replied_151 : decode cX12_replied 151 = .ok (.getfield 193, 3) := by decide +kernel
theorem dX12_replied_154 : decode cX12_replied 154 = .ok (.iload 9, 2) := by decide +kernel
theorem dX12_replied_156 : decode cX12_replied 156 = .ok (.iconst 0, 1) := by decide +kernel
theorem dX12_replied_157 : decode cX12_replied 157 = .ok (.iastore, 1) := by decide +kernel
theorem dX12_replied_158 : decode cX12_replied 158 = .ok (.aload_n 0, 1) := by decide +kernel
theorem dX12_replied_159 : decode cX12_replied 159 = .ok (.getfield 193, 3) := by decide +kernel
theorem dX12_replied_162 : decode cX12_replied 162 = .ok (.iload 9, 2) := by decide +kernel
theorem dX12_replied_164 : decode cX12_replied 164 = .ok (.dup2, 1) := by decide +kernel
theorem dX12_replied_165 : decode cX12_replied 165 = .ok (.iaload, 1) := by decide +kernel
theorem dX12_replied_166 : decode cX12_replied 166 = .ok (.iconst 1, 1) := by decide +kernel
theorem dX12_replied_167 : decode cX12_replied 167 = .ok (.iload_n 2, 1) := by decide +kernel
theorem dX12_replied_168 : decode cX12_replied 168 = .ok (.ishl, 1) := by decide +kernel
theorem dX12_replied_169 : decode cX12_replied 169 = .ok (.ior, 1) := by decide +kernel
theorem dX12_replied_170 : decode cX12_replied 170 = .ok (.iastore, 1) := by decide +kernel
theorem dX12_replied_171 : decode cX12_replied 171 = .ok (.iload 7, 2) := by decide +kernel
theorem dX12_replied_173 : decode cX12_replied 173 = .ok (.ifCond .eq 12, 3) := by decide +kernel
theorem dX12_replied_176 : decode cX12_replied 176 = .ok (.aload_n 0, 1) := by decide +kernel
theorem dX12_replied_177 : decode cX12_replied 177 = .ok (.getfield 196, 3) := by decide +kernel
theorem dX12_replied_180 : decode cX12_replied 180 = .ok (.iload 9, 2) := by decide +kernel
theorem dX12_replied_182 : decode cX12_replied 182 = .ok (.iload 8, 2) := by decide +kernel
theorem dX12_replied_184 : decode cX12_replied 184 = .ok (.iastore, 1) := by decide +kernel
theorem dX12_replied_185 : decode cX12_replied 185 = .ok (.aload_n 0, 1) := by decide +kernel
theorem dX12_replied_186 : decode cX12_replied 186 = .ok (.getfield 193, 3) := by decide +kernel
theorem dX12_replied_189 : decode cX12_replied 189 = .ok (.iload 9, 2) := by decide +kernel
theorem dX12_replied_191 : decode cX12_replied 191 = .ok (.iaload, 1) := by decide +kernel
theorem dX12_replied_192 : decode cX12_replied 192 = .ok (.invokestatic 302, 3) := by decide +kernel
theorem dX12_replied_195 : decode cX12_replied 195 = .ok (.aload_n 0, 1) := by decide +kernel
theorem dX12_replied_196 : decode cX12_replied 196 = .ok (.getfield 226, 3) := by decide +kernel
theorem dX12_replied_199 : decode cX12_replied 199 = .ok (.if_icmp .le 22, 3) := by decide +kernel
theorem dX12_replied_202 : decode cX12_replied 202 = .ok (.aload_n 0, 1) := by decide +kernel
theorem dX12_replied_203 : decode cX12_replied 203 = .ok (.getfield 193, 3) := by decide +kernel
theorem dX12_replied_206 : decode cX12_replied 206 = .ok (.iload 9, 2) := by decide +kernel
theorem dX12_replied_208 : decode cX12_replied 208 = .ok (.iaload, 1) := by decide +kernel
theorem dX12_replied_209 : decode cX12_replied 209 = .ok (.iload_n 3, 1) := by decide +kernel
theorem dX12_replied_210 : decode cX12_replied 210 = .ok (.aload_n 0, 1) := by decide +kernel
theorem dX12_replied_211 : decode cX12_replied 211 = .ok (.getfield 223, 3) := by decide +kernel
theorem dX12_replied_214 : decode cX12_replied 214 = .ok (.irem, 1) := by decide +kernel
theorem dX12_replied_215 : decode cX12_replied 215 = .ok (.ishr, 1) := by decide +kernel
theorem dX12_replied_216 : decode cX12_replied 216 = .ok (.iconst 1, 1) := by decide +kernel
theorem dX12_replied_217 : decode cX12_replied 217 = .ok (.iand, 1) := by decide +kernel
theorem dX12_replied_218 : decode cX12_replied 218 = .ok (.ifCond .ne 4, 3) := by decide +kernel
theorem dX12_replied_221 : decode cX12_replied 221 = .ok (.return_, 1) := by decide +kernel
theorem dX12_replied_222 : decode cX12_replied 222 = .ok (.aload_n 0, 1) := by decide +kernel
theorem dX12_replied_223 : decode cX12_replied 223 = .ok (.getfield 166, 3) := by decide +kernel
theorem dX12_replied_226 : decode cX12_replied 226 = .ok (.iload_n 1, 1) := by decide +kernel
theorem dX12_replied_227 : decode cX12_replied 227 = .ok (.iconst 2, 1) := by decide +kernel
theorem dX12_replied_228 : decode cX12_replied 228 = .ok (.iastore, 1) := by decide +kernel
theorem dX12_replied_229 : decode cX12_replied 229 = .ok (.aload_n 0, 1) := by decide +kernel
theorem dX12_replied_230 : decode cX12_replied 230 = .ok (.getfield 169, 3) := by decide +kernel
theorem dX12_replied_233 : decode cX12_replied 233 = .ok (.iload_n 1, 1) := by decide +kernel
theorem dX12_replied_234 : decode cX12_replied 234 = .ok (.iload 5, 2) := by decide +kernel
theorem dX12_replied_236 : decode cX12_replied 236 = .ok (.iastore, 1) := by decide +kernel
theorem dX12_replied_237 : decode cX12_replied 237 = .ok (.aload_n 0, 1) := by decide +kernel
theorem dX12_replied_238 : decode cX12_replied 238 = .ok (.getfield 172, 3) := by decide +kernel
theorem dX12_replied_241 : decode cX12_replied 241 = .ok (.iload_n 1, 1) := by decide +kernel
theorem dX12_replied_242 : decode cX12_replied 242 = .ok (.iload_n 3, 1) := by decide +kernel
theorem dX12_replied_243 : decode cX12_replied 243 = .ok (.iastore, 1) := by decide +kernel
theorem dX12_replied_244 : decode cX12_replied 244 = .ok (.aload_n 0, 1) := by decide +kernel
theorem dX12_replied_245 : decode cX12_replied 245 = .ok (.getfield 175, 3) := by decide +kernel
theorem dX12_replied_248 : decode cX12_replied 248 = .ok (.iload_n 1, 1) := by decide +kernel
theorem dX12_replied_249 : decode cX12_replied 249 = .ok (.iload 4, 2) := by decide +kernel
theorem dX12_replied_251 : decode cX12_replied 251 = .ok (.iastore, 1) := by decide +kernel
theorem dX12_replied_252 : decode cX12_replied 252 = .ok (.aload_n 0, 1) := by decide +kernel
theorem dX12_replied_253 : decode cX12_replied 253 = .ok (.getfield 178, 3) := by decide +kernel
theorem dX12_replied_256 : decode cX12_replied 256 = .ok (.iload_n 1, 1) := by decide +kernel
theorem dX12_replied_257 : decode cX12_replied 257 = .ok (.aload_n 0, 1) := by decide +kernel
theorem dX12_replied_258 : decode cX12_replied 258 = .ok (.getfield 196, 3) := by decide +kernel
theorem dX12_replied_261 : decode cX12_replied 261 = .ok (.iload 9, 2) := by decide +kernel
theorem dX12_replied_263 : decode cX12_replied 263 = .ok (.iaload, 1) := by decide +kernel
theorem dX12_replied_264 : decode cX12_replied 264 = .ok (.iastore, 1) := by decide +kernel
theorem dX12_replied_265 : decode cX12_replied 265 = .ok (.aload_n 0, 1) := by decide +kernel
theorem dX12_replied_266 : decode cX12_replied 266 = .ok (.getfield 334, 3) := by decide +kernel
theorem dX12_replied_269 : decode cX12_replied 269 = .ok (.sipush 200, 3) := by decide +kernel
theorem dX12_replied_272 : decode cX12_replied 272 = .ok (.irem, 1) := by decide +kernel
theorem dX12_replied_273 : decode cX12_replied 273 = .ok (.istore 11, 2) := by decide +kernel
theorem dX12_replied_275 : decode cX12_replied 275 = .ok (.aload_n 0, 1) := by decide +kernel
theorem dX12_replied_276 : decode cX12_replied 276 = .ok (.getfield 199, 3) := by decide +kernel
theorem dX12_replied_279 : decode cX12_replied 279 = .ok (.iload 11, 2) := by decide +kernel
theorem dX12_replied_281 : decode cX12_replied 281 = .ok (.iload 6, 2) := by decide +kernel
theorem dX12_replied_283 : decode cX12_replied 283 = .ok (.iastore, 1) := by decide +kernel
theorem dX12_replied_284 : decode cX12_replied 284 = .ok (.aload_n 0, 1) := by decide +kernel
theorem dX12_replied_285 : decode cX12_replied 285 = .ok (.getfield 202, 3) := by decide +kernel
theorem dX12_replied_288 : decode cX12_replied 288 = .ok (.iload 11, 2) := by decide +kernel
theorem dX12_replied_290 : decode cX12_replied 290 = .ok (.iload_n 3, 1) := by decide +kernel
theorem dX12_replied_291 : decode cX12_replied 291 = .ok (.iastore, 1) := by decide +kernel
theorem dX12_replied_292 : decode cX12_replied 292 = .ok (.aload_n 0, 1) := by decide +kernel
theorem dX12_replied_293 : decode cX12_replied 293 = .ok (.getfield 205, 3) := by decide +kernel
theorem dX12_replied_296 : decode cX12_replied 296 = .ok (.iload 11, 2) := by decide +kernel
theorem dX12_replied_298 : decode cX12_replied 298 = .ok (.iload 4, 2) := by decide +kernel
theorem dX12_replied_300 : decode cX12_replied 300 = .ok (.iastore, 1) := by decide +kernel
theorem dX12_replied_301 : decode cX12_replied 301 = .ok (.aload_n 0, 1) := by decide +kernel
theorem dX12_replied_302 : decode cX12_replied 302 = .ok (.getfield 208, 3) := by decide +kernel
theorem dX12_replied_305 : decode cX12_replied 305 = .ok (.iload 11, 2) := by decide +kernel
theorem dX12_replied_307 : decode cX12_replied 307 = .ok (.iload 5, 2) := by decide +kernel
theorem dX12_replied_309 : decode cX12_replied 309 = .ok (.iastore, 1) := by decide +kernel
theorem dX12_replied_310 : decode cX12_replied 310 = .ok (.aload_n 0, 1) := by decide +kernel
theorem dX12_replied_311 : decode cX12_replied 311 = .ok (.getfield 211, 3) := by decide +kernel
theorem dX12_replied_314 : decode cX12_replied 314 = .ok (.iload 11, 2) := by decide +kernel
theorem dX12_replied_316 : decode cX12_replied 316 = .ok (.aload_n 0, 1) := by decide +kernel
theorem dX12_replied_317 : decode cX12_replied 317 = .ok (.getfield 178, 3) := by decide +kernel
theorem dX12_replied_320 : decode cX12_replied 320 = .ok (.iload_n 1, 1) := by decide +kernel
theorem dX12_replied_321 : decode cX12_replied 321 = .ok (.iaload, 1) := by decide +kernel
theorem dX12_replied_322 : decode cX12_replied 322 = .ok (.iastore, 1) := by decide +kernel
theorem dX12_replied_323 : decode cX12_replied 323 = .ok (.aload_n 0, 1) := by decide +kernel
theorem dX12_replied_324 : decode cX12_replied 324 = .ok (.dup, 1) := by decide +kernel
theorem dX12_replied_325 : decode cX12_replied 325 = .ok (.getfield 334, 3) := by decide +kernel
theorem dX12_replied_328 : decode cX12_replied 328 = .ok (.iconst 1, 1) := by decide +kernel
theorem dX12_replied_329 : decode cX12_replied 329 = .ok (.iadd, 1) := by decide +kernel
theorem dX12_replied_330 : decode cX12_replied 330 = .ok (.putfield 334, 3) := by decide +kernel
theorem dX12_replied_333 : decode cX12_replied 333 = .ok (.return_, 1) := by decide +kernel
theorem dX12_inView_0 : decode cX12_inView 0 = .ok (.iload_n 1, 1) := by decide +kernel
theorem dX12_inView_1 : decode cX12_inView 1 = .ok (.tableswitch 142 1 6 #[39, 50, 99, 110, 121, 131], 39) := by decide +kernel
theorem dX12_inView_40 : decode cX12_inView 40 = .ok (.aload_n 0, 1) := by decide +kernel
theorem dX12_inView_41 : decode cX12_inView 41 = .ok (.iload_n 2, 1) := by decide +kernel
theorem dX12_inView_42 : decode cX12_inView 42 = .ok (.iload_n 3, 1) := by decide +kernel
theorem dX12_inView_43 : decode cX12_inView 43 = .ok (.iload 4, 2) := by decide +kernel
theorem dX12_inView_45 : decode cX12_inView 45 = .ok (.invokevirtual 337, 3) := by decide +kernel
theorem dX12_inView_48 : decode cX12_inView 48 = .ok (.goto 143, 3) := by decide +kernel
theorem dX12_inView_51 : decode cX12_inView 51 = .ok (.aload_n 0, 1) := by decide +kernel
theorem dX12_inView_52 : decode cX12_inView 52 = .ok (.getfield 94, 3) := by decide +kernel
theorem dX12_inView_55 : decode cX12_inView 55 = .ok (.iload_n 2, 1) := by decide +kernel
theorem dX12_inView_56 : decode cX12_inView 56 = .ok (.iaload, 1) := by decide +kernel
theorem dX12_inView_57 : decode cX12_inView 57 = .ok (.ifCond .ne 134, 3) := by decide +kernel
theorem dX12_inView_60 : decode cX12_inView 60 = .ok (.iload 4, 2) := by decide +kernel
theorem dX12_inView_62 : decode cX12_inView 62 = .ok (.aload_n 0, 1) := by decide +kernel
theorem dX12_inView_63 : decode cX12_inView 63 = .ok (.getfield 103, 3) := by decide +kernel
theorem dX12_inView_66 : decode cX12_inView 66 = .ok (.iload_n 2, 1) := by decide +kernel
theorem dX12_inView_67 : decode cX12_inView 67 = .ok (.iaload, 1) := by decide +kernel
theorem dX12_inView_68 : decode cX12_inView 68 = .ok (.iconst 1, 1) := by decide +kernel
theorem dX12_inView_69 : decode cX12_inView 69 = .ok (.iadd, 1) := by decide +kernel
theorem dX12_inView_70 : decode cX12_inView 70 = .ok (.if_icmp .eq 6, 3) := by decide +kernel
theorem dX12_inView_73 : decode cX12_inView 73 = .ok (.goto 118, 3) := by decide +kernel
theorem dX12_inView_76 : decode cX12_inView 76 = .ok (.aload_n 0, 1) := by decide +kernel
theorem dX12_inView_77 : decode cX12_inView 77 = .ok (.iload_n 2, 1) := by decide +kernel
theorem dX12_inView_78 : decode cX12_inView 78 = .ok (.iload 4, 2) := by decide +kernel
theorem dX12_inView_80 : decode cX12_inView 80 = .ok (.aload_n 0, 1) := by decide +kernel
theorem dX12_inView_81 : decode cX12_inView 81 = .ok (.getfield 106, 3) := by decide +kernel
theorem dX12_inView_84 : decode cX12_inView 84 = .ok (.iload_n 2, 1) := by decide +kernel
theorem dX12_inView_85 : decode cX12_inView 85 = .ok (.iaload, 1) := by decide +kernel
theorem dX12_inView_86 : decode cX12_inView 86 = .ok (.isub, 1) := by decide +kernel
theorem dX12_inView_87 : decode cX12_inView 87 = .ok (.iload 5, 2) := by decide +kernel
theorem dX12_inView_89 : decode cX12_inView 89 = .ok (.invokevirtual 315, 3) := by decide +kernel
theorem dX12_inView_92 : decode cX12_inView 92 = .ok (.aload_n 0, 1) := by decide +kernel
theorem dX12_inView_93 : decode cX12_inView 93 = .ok (.iload_n 2, 1) := by decide +kernel
theorem dX12_inView_94 : decode cX12_inView 94 = .ok (.invokevirtual 318, 3) := by decide +kernel
theorem dX12_inView_97 : decode cX12_inView 97 = .ok (.goto 94, 3) := by decide +kernel
theorem dX12_inView_100 : decode cX12_inView 100 = .ok (.aload_n 0, 1) := by decide +kernel
theorem dX12_inView_101 : decode cX12_inView 101 = .ok (.iload_n 2, 1) := by decide +kernel
theorem dX12_inView_102 : decode cX12_inView 102 = .ok (.iload_n 3, 1) := by decide +kernel
theorem dX12_inView_103 : decode cX12_inView 103 = .ok (.iload 4, 2) := by decide +kernel
theorem dX12_inView_105 : decode cX12_inView 105 = .ok (.invokevirtual 340, 3) := by decide +kernel
theorem dX12_inView_108 : decode cX12_inView 108 = .ok (.goto 83, 3) := by decide +kernel
theorem dX12_inView_111 : decode cX12_inView 111 = .ok (.aload_n 0, 1) := by decide +kernel
theorem dX12_inView_112 : decode cX12_inView 112 = .ok (.iload_n 2, 1) := by decide +kernel
theorem dX12_inView_113 : decode cX12_inView 113 = .ok (.iload_n 3, 1) := by decide +kernel
theorem dX12_inView_114 : decode cX12_inView 114 = .ok (.iload 4, 2) := by decide +kernel
theorem dX12_inView_116 : decode cX12_inView 116 = .ok (.invokevirtual 343, 3) := by decide +kernel
theorem dX12_inView_119 : decode cX12_inView 119 = .ok (.goto 72, 3) := by decide +kernel
theorem dX12_inView_122 : decode cX12_inView 122 = .ok (.aload_n 0, 1) := by decide +kernel
theorem dX12_inView_123 : decode cX12_inView 123 = .ok (.iload_n 2, 1) := by decide +kernel
theorem dX12_inView_124 : decode cX12_inView 124 = .ok (.iload 4, 2) := by decide +kernel
theorem dX12_inView_126 : decode cX12_inView 126 = .ok (.invokevirtual 346, 3) := by decide +kernel
theorem dX12_inView_129 : decode cX12_inView 129 = .ok (.goto 62, 3) := by decide +kernel
theorem dX12_inView_132 : decode cX12_inView 132 = .ok (.aload_n 0, 1) := by decide +kernel
theorem dX12_inView_133 : decode cX12_inView 133 = .ok (.iload_n 2, 1) := by decide +kernel
theorem dX12_inView_134 : decode cX12_inView 134 = .ok (.iload_n 3, 1) := by decide +kernel
theorem dX12_inView_135 : decode cX12_inView 135 = .ok (.iload 4, 2) := by decide +kernel
theorem dX12_inView_137 : decode cX12_inView 137 = .ok (.invokevirtual 349, 3) := by decide +kernel
theorem dX12_inView_140 : decode cX12_inView 140 = .ok (.goto 51, 3) := by decide +kernel
theorem dX12_inView_143 : decode cX12_inView 143 = .ok (.aload_n 0, 1) := by decide +kernel
theorem dX12_inView_144 : decode cX12_inView 144 = .ok (.iload_n 2, 1) := by decide +kernel
theorem dX12_inView_145 : decode cX12_inView 145 = .ok (.invokevirtual 248, 3) := by decide +kernel
theorem dX12_inView_148 : decode cX12_inView 148 = .ok (.ifCond .ne 43, 3) := by decide +kernel
theorem dX12_inView_151 : decode cX12_inView 151 = .ok (.aload_n 0, 1) := by decide +kernel
theorem dX12_inView_152 : decode cX12_inView 152 = .ok (.getfield 94, 3) := by decide +kernel
theorem dX12_inView_155 : decode cX12_inView 155 = .ok (.iload_n 2, 1) := by decide +kernel
theorem dX12_inView_156 : decode cX12_inView 156 = .ok (.iaload, 1) := by decide +kernel
theorem dX12_inView_157 : decode cX12_inView 157 = .ok (.iconst 2, 1) := by decide +kernel
theorem dX12_inView_158 : decode cX12_inView 158 = .ok (.if_icmp .eq 33, 3) := by decide +kernel
theorem dX12_inView_161 : decode cX12_inView 161 = .ok (.iload 4, 2) := by decide +kernel
theorem dX12_inView_163 : decode cX12_inView 163 = .ok (.aload_n 0, 1) := by decide +kernel
theorem dX12_inView_164 : decode cX12_inView 164 = .ok (.getfield 109, 3) := by decide +kernel
theorem dX12_inView_167 : decode cX12_inView 167 = .ok (.iload_n 2, 1) := by decide +kernel
theorem dX12_inView_168 : decode cX12_inView 168 = .ok (.iaload, 1) := by decide +kernel
theorem dX12_inView_169 : decode cX12_inView 169 = .ok (.if_icmp .le 22, 3) := by decide +kernel
theorem dX12_inView_172 : decode cX12_inView 172 = .ok (.aload_n 0, 1) := by decide +kernel
theorem dX12_inView_173 : decode cX12_inView 173 = .ok (.getfield 112, 3) := by decide +kernel
theorem dX12_inView_176 : decode cX12_inView 176 = .ok (.iload_n 2, 1) := by decide +kernel
theorem dX12_inView_177 : decode cX12_inView 177 = .ok (.iaload, 1) := by decide +kernel
theorem dX12_inView_178 : decode cX12_inView 178 = .ok (.iload 4, 2) := by decide +kernel
theorem dX12_inView_180 : decode cX12_inView 180 = .ok (.if_icmp .lt 11, 3) := by decide +kernel
theorem dX12_inView_183 : decode cX12_inView 183 = .ok (.aload_n 0, 1) := by decide +kernel
theorem dX12_inView_184 : decode cX12_inView 184 = .ok (.getfield 109, 3) := by decide +kernel
theorem dX12_inView_187 : decode cX12_inView 187 = .ok (.iload_n 2, 1) := by decide +kernel
theorem dX12_inView_188 : decode cX12_inView 188 = .ok (.iload 4, 2) := by decide +kernel
theorem dX12_inView_190 : decode cX12_inView 190 = .ok (.iastore, 1) := by decide +kernel
theorem dX12_inView_191 : decode cX12_inView 191 = .ok (.return_, 1) := by decide +kernel
theorem dX12_arrive_0 : decode cX12_arrive 0 = .ok (.aload_n 0, 1) := by decide +kernel
theorem dX12_arrive_1 : decode cX12_arrive 1 = .ok (.iload_n 1, 1) := by decide +kernel
theorem dX12_arrive_2 : decode cX12_arrive 2 = .ok (.invokevirtual 352, 3) := by decide +kernel
theorem dX12_arrive_5 : decode cX12_arrive 5 = .ok (.istore_n 2, 1) := by decide +kernel
theorem dX12_arrive_6 : decode cX12_arrive 6 = .ok (.aload_n 0, 1) := by decide +kernel
theorem dX12_arrive_7 : decode cX12_arrive 7 = .ok (.getfield 42, 3) := by decide +kernel
theorem dX12_arrive_10 : decode cX12_arrive 10 = .ok (.iload_n 2, 1) := by decide +kernel
theorem dX12_arrive_11 : decode cX12_arrive 11 = .ok (.iaload, 1) := by decide +kernel
theorem dX12_arrive_12 : decode cX12_arrive 12 = .ok (.istore_n 3, 1) := by decide +kernel
theorem dX12_arrive_13 : decode cX12_arrive 13 = .ok (.aload_n 0, 1) := by decide +kernel
theorem dX12_arrive_14 : decode cX12_arrive 14 = .ok (.getfield 48, 3) := by decide +kernel
theorem dX12_arrive_17 : decode cX12_arrive 17 = .ok (.iload_n 2, 1) := by decide +kernel
theorem dX12_arrive_18 : decode cX12_arrive 18 = .ok (.iaload, 1) := by decide +kernel
theorem dX12_arrive_19 : decode cX12_arrive 19 = .ok (.istore 4, 2) := by decide +kernel
theorem dX12_arrive_21 : decode cX12_arrive 21 = .ok (.aload_n 0, 1) := by decide +kernel
theorem dX12_arrive_22 : decode cX12_arrive 22 = .ok (.getfield 45, 3) := by decide +kernel
theorem dX12_arrive_25 : decode cX12_arrive 25 = .ok (.iload_n 2, 1) := by decide +kernel
theorem dX12_arrive_26 : decode cX12_arrive 26 = .ok (.iaload, 1) := by decide +kernel
theorem dX12_arrive_27 : decode cX12_arrive 27 = .ok (.istore 5, 2) := by decide +kernel
theorem dX12_arrive_29 : decode cX12_arrive 29 = .ok (.aload_n 0, 1) := by decide +kernel
theorem dX12_arrive_30 : decode cX12_arrive 30 = .ok (.getfield 51, 3) := by decide +kernel
theorem dX12_arrive_33 : decode cX12_arrive 33 = .ok (.iload_n 2, 1) := by decide +kernel
theorem dX12_arrive_34 : decode cX12_arrive 34 = .ok (.iaload, 1) := by decide +kernel
theorem dX12_arrive_35 : decode cX12_arrive 35 = .ok (.istore 6, 2) := by decide +kernel
theorem dX12_arrive_37 : decode cX12_arrive 37 = .ok (.aload_n 0, 1) := by decide +kernel
theorem dX12_arrive_38 : decode cX12_arrive 38 = .ok (.getfield 54, 3) := by decide +kernel
theorem dX12_arrive_41 : decode cX12_arrive 41 = .ok (.iload_n 2, 1) := by decide +kernel
theorem dX12_arrive_42 : decode cX12_arrive 42 = .ok (.iaload, 1) := by decide +kernel
theorem dX12_arrive_43 : decode cX12_arrive 43 = .ok (.istore 7, 2) := by decide +kernel
theorem dX12_arrive_45 : decode cX12_arrive 45 = .ok (.aload_n 0, 1) := by decide +kernel
theorem dX12_arrive_46 : decode cX12_arrive 46 = .ok (.getfield 75, 3) := by decide +kernel
theorem dX12_arrive_49 : decode cX12_arrive 49 = .ok (.iload_n 2, 1) := by decide +kernel
theorem dX12_arrive_50 : decode cX12_arrive 50 = .ok (.iaload, 1) := by decide +kernel
theorem dX12_arrive_51 : decode cX12_arrive 51 = .ok (.istore 8, 2) := by decide +kernel
theorem dX12_arrive_53 : decode cX12_arrive 53 = .ok (.iconst 0, 1) := by decide +kernel
theorem dX12_arrive_54 : decode cX12_arrive 54 = .ok (.istore 9, 2) := by decide +kernel
theorem dX12_arrive_56 : decode cX12_arrive 56 = .ok (.iload 9, 2) := by decide +kernel
theorem dX12_arrive_58 : decode cX12_arrive 58 = .ok (.iload 8, 2) := by decide +kernel
theorem dX12_arrive_60 : decode cX12_arrive 60 = .ok (.if_icmp .ge 28, 3) := by decide +kernel
theorem dX12_arrive_63 : decode cX12_arrive 63 = .ok (.aload_n 0, 1) := by decide +kernel
theorem dX12_arrive_64 : decode cX12_arrive 64 = .ok (.getfield 157, 3) := by decide +kernel
theorem dX12_arrive_67 : decode cX12_arrive 67 = .ok (.iload 9, 2) := by decide +kernel
theorem dX12_arrive_69 : decode cX12_arrive 69 = .ok (.aload_n 0, 1) := by decide +kernel
theorem dX12_arrive_70 : decode cX12_arrive 70 = .ok (.getfield 82, 3) := by decide +kernel
theorem dX12_arrive_73 : decode cX12_arrive 73 = .ok (.bipush 100, 2) := by decide +kernel
theorem dX12_arrive_75 : decode cX12_arrive 75 = .ok (.iload_n 2, 1) := by decide +kernel
theorem dX12_arrive_76 : decode cX12_arrive 76 = .ok (.imul, 1) := by decide +kernel
theorem dX12_arrive_77 : decode cX12_arrive 77 = .ok (.iload 9, 2) := by decide +kernel
theorem dX12_arrive_79 : decode cX12_arrive 79 = .ok (.iadd, 1) := by decide +kernel
theorem dX12_arrive_80 : decode cX12_arrive 80 = .ok (.iaload, 1) := by decide +kernel
theorem dX12_arrive_81 : decode cX12_arrive 81 = .ok (.iastore, 1) := by decide +kernel
theorem dX12_arrive_82 : decode cX12_arrive 82 = .ok (.iinc 9 1, 3) := by decide +kernel
theorem dX12_arrive_85 : decode cX12_arrive 85 = .ok (.goto (-29), 3) := by decide +kernel
theorem dX12_arrive_88 : decode cX12_arrive 88 = .ok (.iload_n 3, 1) := by decide +kernel
theorem dX12_arrive_89 : decode cX12_arrive 89 = .ok (.bipush 11, 2) := by decide +kernel
theorem dX12_arrive_91 : decode cX12_arrive 91 = .ok (.if_icmp .ne 40, 3) := by decide +kernel
theorem dX12_arrive_94 : decode cX12_arrive 94 = .ok (.aload_n 0, 1) := by decide +kernel
theorem dX12_arrive_95 : decode cX12_arrive 95 = .ok (.iload 4, 2) := by decide +kernel
theorem dX12_arrive_97 : decode cX12_arrive 97 = .ok (.iload 5, 2) := by decide +kernel
theorem dX12_arrive_99 : decode cX12_arrive 99 = .ok (.iload 6, 2) := by decide +kernel
theorem dX12_arrive_101 : decode cX12_arrive 101 = .ok (.iload 7, 2) := by decide +kernel
theorem dX12_arrive_103 : decode cX12_arrive 103 = .ok (.aload_n 0, 1) := by decide +kernel
theorem dX12_arrive_104 : decode cX12_arrive 104 = .ok (.getfield 57, 3) := by decide +kernel
theorem dX12_arrive_107 : decode cX12_arrive 107 = .ok (.iload_n 2, 1) := by decide +kernel
theorem dX12_arrive_108 : decode cX12_arrive 108 = .ok (.iaload, 1) := by decide +kernel
theorem dX12_arrive_109 : decode cX12_arrive 109 = .ok (.aload_n 0, 1) := by decide +kernel
theorem dX12_arrive_110 : decode cX12_arrive 110 = .ok (.getfield 60, 3) := by decide +kernel
theorem dX12_arrive_113 : decode cX12_arrive 113 = .ok (.iload_n 2, 1) := by decide +kernel
theorem dX12_arrive_114 : decode cX12_arrive 114 = .ok (.iaload, 1) := by decide +kernel
theorem dX12_arrive_115 : decode cX12_arrive 115 = .ok (.aload_n 0, 1) := by decide +kernel
theorem dX12_arrive_116 : decode cX12_arrive 116 = .ok (.getfield 78, 3) := by decide +kernel
theorem dX12_arrive_119 : decode cX12_arrive 119 = .ok (.iload_n 2, 1) := by decide +kernel
theorem dX12_arrive_120 : decode cX12_arrive 120 = .ok (.baload, 1) := by decide +kernel
theorem dX12_arrive_121 : decode cX12_arrive 121 = .ok (.aload_n 0, 1) := by decide +kernel
theorem dX12_arrive_122 : decode cX12_arrive 122 = .ok (.getfield 63, 3) := by decide +kernel
theorem dX12_arrive_125 : decode cX12_arrive 125 = .ok (.iload_n 2, 1) := by decide +kernel
theorem dX12_arrive_126 : decode cX12_arrive 126 = .ok (.iaload, 1) := by decide +kernel
theorem dX12_arrive_127 : decode cX12_arrive 127 = .ok (.invokevirtual 355, 3) := by decide +kernel
theorem dX12_arrive_130 : decode cX12_arrive 130 = .ok (.return_, 1) := by decide +kernel
theorem dX12_arrive_131 : decode cX12_arrive 131 = .ok (.aload_n 0, 1) := by decide +kernel
theorem dX12_arrive_132 : decode cX12_arrive 132 = .ok (.getfield 85, 3) := by decide +kernel
theorem dX12_arrive_135 : decode cX12_arrive 135 = .ok (.iload 4, 2) := by decide +kernel
theorem dX12_arrive_137 : decode cX12_arrive 137 = .ok (.baload, 1) := by decide +kernel
theorem dX12_arrive_138 : decode cX12_arrive 138 = .ok (.ifCond .eq 14, 3) := by decide +kernel
theorem dX12_arrive_141 : decode cX12_arrive 141 = .ok (.aload_n 0, 1) := by decide +kernel
theorem dX12_arrive_142 : decode cX12_arrive 142 = .ok (.dup, 1) := by decide +kernel
theorem dX12_arrive_143 : decode cX12_arrive 143 = .ok (.getfield 238, 3) := by decide +kernel
theorem dX12_arrive_146 : decode cX12_arrive 146 = .ok (.iconst 1, 1) := by decide +kernel
theorem dX12_arrive_147 : decode cX12_arrive 147 = .ok (.iadd, 1) := by decide +kernel
theorem dX12_arrive_148 : decode cX12_arrive 148 = .ok (.putfield 238, 3) := by decide +kernel
theorem dX12_arrive_151 : decode cX12_arrive 151 = .ok (.return_, 1) := by decide +kernel
theorem dX12_arrive_152 : decode cX12_arrive 152 = .ok (.iload_n 3, 1) := by decide +kernel
theorem dX12_arrive_153 : decode cX12_arrive 153 = .ok (.ifCond .ne 26, 3) := by decide +kernel
theorem dX12_arrive_156 : decode cX12_arrive 156 = .ok (.aload_n 0, 1) := by decide +kernel
theorem dX12_arrive_157 : decode cX12_arrive 157 = .ok (.iload 4, 2) := by decide +kernel
theorem dX12_arrive_159 : decode cX12_arrive 159 = .ok (.iload 7, 2) := by decide +kernel
theorem dX12_arrive_161 : decode cX12_arrive 161 = .ok (.aload_n 0, 1) := by decide +kernel
theorem dX12_arrive_162 : decode cX12_arrive 162 = .ok (.getfield 57, 3) := by decide +kernel
theorem dX12_arrive_165 : decode cX12_arrive 165 = .ok (.iload_n 2, 1) := by decide +kernel
theorem dX12_arrive_166 : decode cX12_arrive 166 = .ok (.iaload, 1) := by decide +kernel
theorem dX12_arrive_167 : decode cX12_arrive 167 = .ok (.aload_n 0, 1) := by decide +kernel
theorem dX12_arrive_168 : decode cX12_arrive 168 = .ok (.getfield 60, 3) := by decide +kernel
theorem dX12_arrive_171 : decode cX12_arrive 171 = .ok (.iload_n 2, 1) := by decide +kernel
theorem dX12_arrive_172 : decode cX12_arrive 172 = .ok (.iaload, 1) := by decide +kernel
theorem dX12_arrive_173 : decode cX12_arrive 173 = .ok (.invokevirtual 359, 3) := by decide +kernel
theorem dX12_arrive_176 : decode cX12_arrive 176 = .ok (.goto 135, 3) := by decide +kernel
theorem dX12_arrive_179 : decode cX12_arrive 179 = .ok (.iload_n 3, 1) := by decide +kernel
theorem dX12_arrive_180 : decode cX12_arrive 180 = .ok (.bipush 8, 2) := by decide +kernel
theorem dX12_arrive_182 : decode cX12_arrive 182 = .ok (.if_icmp .ne 16, 3) := by decide +kernel
theorem dX12_arrive_185 : decode cX12_arrive 185 = .ok (.aload_n 0, 1) := by decide +kernel
theorem dX12_arrive_186 : decode cX12_arrive 186 = .ok (.iload 4, 2) := by decide +kernel
theorem dX12_arrive_188 : decode cX12_arrive 188 = .ok (.iload 6, 2) := by decide +kernel
theorem dX12_arrive_190 : decode cX12_arrive 190 = .ok (.iload 7, 2) := by decide +kernel
theorem dX12_arrive_192 : decode cX12_arrive 192 = .ok (.invokevirtual 325, 3) := by decide +kernel
theorem dX12_arrive_195 : decode cX12_arrive 195 = .ok (.goto 116, 3) := by decide +kernel
theorem dX12_arrive_198 : decode cX12_arrive 198 = .ok (.iload_n 3, 1) := by decide +kernel
theorem dX12_arrive_199 : decode cX12_arrive 199 = .ok (.bipush 9, 2) := by decide +kernel
theorem dX12_arrive_201 : decode cX12_arrive 201 = .ok (.if_icmp .ne 38, 3) := by decide +kernel
theorem dX12_arrive_204 : decode cX12_arrive 204 = .ok (.aload_n 0, 1) := by decide +kernel
theorem dX12_arrive_205 : decode cX12_arrive 205 = .ok (.iload 4, 2) := by decide +kernel
theorem dX12_arrive_207 : decode cX12_arrive 207 = .ok (.iload 5, 2) := by decide +kernel
theorem dX12_arrive_209 : decode cX12_arrive 209 = .ok (.iload 6, 2) := by decide +kernel
theorem dX12_arrive_211 : decode cX12_arrive 211 = .ok (.iload 7, 2) := by decide +kernel
theorem dX12_arrive_213 : decode cX12_arrive 213 = .ok (.aload_n 0, 1) := by decide +kernel
theorem dX12_arrive_214 : decode cX12_arrive 214 = .ok (.getfield 66, 3) := by decide +kernel
theorem dX12_arrive_217 : decode cX12_arrive 217 = .ok (.iload_n 2, 1) := by decide +kernel
theorem dX12_arrive_218 : decode cX12_arrive 218 = .ok (.iaload, 1) := by decide +kernel
theorem dX12_arrive_219 : decode cX12_arrive 219 = .ok (.aload_n 0, 1) := by decide +kernel
theorem dX12_arrive_220 : decode cX12_arrive 220 = .ok (.getfield 69, 3) := by decide +kernel
theorem dX12_arrive_223 : decode cX12_arrive 223 = .ok (.iload_n 2, 1) := by decide +kernel
theorem dX12_arrive_224 : decode cX12_arrive 224 = .ok (.iaload, 1) := by decide +kernel
theorem dX12_arrive_225 : decode cX12_arrive 225 = .ok (.aload_n 0, 1) := by decide +kernel
theorem dX12_arrive_226 : decode cX12_arrive 226 = .ok (.getfield 72, 3) := by decide +kernel
theorem dX12_arrive_229 : decode cX12_arrive 229 = .ok (.iload_n 2, 1) := by decide +kernel
theorem dX12_arrive_230 : decode cX12_arrive 230 = .ok (.iaload, 1) := by decide +kernel
theorem dX12_arrive_231 : decode cX12_arrive 231 = .ok (.iload 8, 2) := by decide +kernel
theorem dX12_arrive_233 : decode cX12_arrive 233 = .ok (.invokevirtual 363, 3) := by decide +kernel
theorem dX12_arrive_236 : decode cX12_arrive 236 = .ok (.goto 75, 3) := by decide +kernel
theorem dX12_arrive_239 : decode cX12_arrive 239 = .ok (.iload_n 3, 1) := by decide +kernel
theorem dX12_arrive_240 : decode cX12_arrive 240 = .ok (.bipush 10, 2) := by decide +kernel
theorem dX12_arrive_242 : decode cX12_arrive 242 = .ok (.if_icmp .ne 24, 3) := by decide +kernel
theorem dX12_arrive_245 : decode cX12_arrive 245 = .ok (.aload_n 0, 1) := by decide +kernel
theorem dX12_arrive_246 : decode cX12_arrive 246 = .ok (.iload 4, 2) := by decide +kernel
theorem dX12_arrive_248 : decode cX12_arrive 248 = .ok (.iload 6, 2) := by decide +kernel
theorem dX12_arrive_250 : decode cX12_arrive 250 = .ok (.iload 7, 2) := by decide +kernel
theorem dX12_arrive_252 : decode cX12_arrive 252 = .ok (.aload_n 0, 1) := by decide +kernel
theorem dX12_arrive_253 : decode cX12_arrive 253 = .ok (.getfield 72, 3) := by decide +kernel
theorem dX12_arrive_256 : decode cX12_arrive 256 = .ok (.iload_n 2, 1) := by decide +kernel
theorem dX12_arrive_257 : decode cX12_arrive 257 = .ok (.iaload, 1) := by decide +kernel
theorem dX12_arrive_258 : decode cX12_arrive 258 = .ok (.iload 8, 2) := by decide +kernel
theorem dX12_arrive_260 : decode cX12_arrive 260 = .ok (.invokevirtual 367, 3) := by decide +kernel
theorem dX12_arrive_263 : decode cX12_arrive 263 = .ok (.goto 48, 3) := by decide +kernel
theorem dX12_arrive_266 : decode cX12_arrive 266 = .ok (.iload 6, 2) := by decide +kernel
theorem dX12_arrive_268 : decode cX12_arrive 268 = .ok (.aload_n 0, 1) := by decide +kernel
theorem dX12_arrive_269 : decode cX12_arrive 269 = .ok (.getfield 88, 3) := by decide +kernel
theorem dX12_arrive_272 : decode cX12_arrive 272 = .ok (.iload 4, 2) := by decide +kernel
theorem dX12_arrive_274 : decode cX12_arrive 274 = .ok (.iaload, 1) := by decide +kernel
theorem dX12_arrive_275 : decode cX12_arrive 275 = .ok (.if_icmp .ne 36, 3) := by decide +kernel
theorem dX12_arrive_278 : decode cX12_arrive 278 = .ok (.iload 7, 2) := by decide +kernel
theorem dX12_arrive_280 : decode cX12_arrive 280 = .ok (.aload_n 0, 1) := by decide +kernel
theorem dX12_arrive_281 : decode cX12_arrive 281 = .ok (.getfield 91, 3) := by decide +kernel
theorem dX12_arrive_284 : decode cX12_arrive 284 = .ok (.iload 4, 2) := by decide +kernel
theorem dX12_arrive_286 : decode cX12_arrive 286 = .ok (.iaload, 1) := by decide +kernel
theorem dX12_arrive_287 : decode cX12_arrive 287 = .ok (.if_icmp .ne 24, 3) := by decide +kernel
theorem dX12_arrive_290 : decode cX12_arrive 290 = .ok (.aload_n 0, 1) := by decide +kernel
theorem dX12_arrive_291 : decode cX12_arrive 291 = .ok (.iload_n 3, 1) := by decide +kernel
theorem dX12_arrive_292 : decode cX12_arrive 292 = .ok (.iload 4, 2) := by decide +kernel
theorem dX12_arrive_294 : decode cX12_arrive 294 = .ok (.iload 5, 2) := by decide +kernel
theorem dX12_arrive_296 : decode cX12_arrive 296 = .ok (.aload_n 0, 1) := by decide +kernel
theorem dX12_arrive_297 : decode cX12_arrive 297 = .ok (.getfield 57, 3) := by decide +kernel
theorem dX12_arrive_300 : decode cX12_arrive 300 = .ok (.iload_n 2, 1) := by decide +kernel
theorem dX12_arrive_301 : decode cX12_arrive 301 = .ok (.iaload, 1) := by decide +kernel
theorem dX12_arrive_302 : decode cX12_arrive 302 = .ok (.aload_n 0, 1) := by decide +kernel
theorem dX12_arrive_303 : decode cX12_arrive 303 = .ok (.getfield 60, 3) := by decide +kernel
theorem dX12_arrive_306 : decode cX12_arrive 306 = .ok (.iload_n 2, 1) := by decide +kernel
theorem dX12_arrive_307 : decode cX12_arrive 307 = .ok (.iaload, 1) := by decide +kernel
theorem dX12_arrive_308 : decode cX12_arrive 308 = .ok (.invokevirtual 371, 3) := by decide +kernel
theorem dX12_arrive_311 : decode cX12_arrive 311 = .ok (.return_, 1) := by decide +kernel
theorem dX12_request_0 : decode cX12_request 0 = .ok (.aload_n 0, 1) := by decide +kernel
theorem dX12_request_1 : decode cX12_request 1 = .ok (.iload_n 1, 1) := by decide +kernel
theorem dX12_request_2 : decode cX12_request 2 = .ok (.iconst 4, 1) := by decide +kernel
theorem dX12_request_3 : decode cX12_request 3 = .ok (.invokestatic 374, 3) := by decide +kernel
theorem dX12_request_6 : decode cX12_request 6 = .ok (.ifCond .eq 12, 3) := by decide +kernel
theorem dX12_request_9 : decode cX12_request 9 = .ok (.iload_n 3, 1) := by decide +kernel
theorem dX12_request_10 : decode cX12_request 10 = .ok (.bipush 8, 2) := by decide +kernel
theorem dX12_request_12 : decode cX12_request 12 = .ok (.invokestatic 374, 3) := by decide +kernel
theorem dX12_request_15 : decode cX12_request 15 = .ok (.ifCond .ne 7, 3) := by decide +kernel
theorem dX12_request_18 : decode cX12_request 18 = .ok (.iconst 1, 1) := by decide +kernel
theorem dX12_request_19 : decode cX12_request 19 = .ok (.goto 30, 3) := by decide +kernel
theorem dX12_request_22 : decode cX12_request 22 = .ok (.iload_n 2, 1) := by decide +kernel
theorem dX12_request_23 : decode cX12_request 23 = .ok (.iconst 3, 1) := by decide +kernel
theorem dX12_request_24 : decode cX12_request 24 = .ok (.invokestatic 374, 3) := by decide +kernel
theorem dX12_request_27 : decode cX12_request 27 = .ok (.ifCond .ne 7, 3) := by decide +kernel
theorem dX12_request_30 : decode cX12_request 30 = .ok (.iconst 2, 1) := by decide +kernel
theorem dX12_request_31 : decode cX12_request 31 = .ok (.goto 18, 3) := by decide +kernel
theorem dX12_request_34 : decode cX12_request 34 = .ok (.aload_n 0, 1) := by decide +kernel
theorem dX12_request_35 : decode cX12_request 35 = .ok (.getfield 166, 3) := by decide +kernel
theorem dX12_request_38 : decode cX12_request 38 = .ok (.iload_n 1, 1) := by decide +kernel
theorem dX12_request_39 : decode cX12_request 39 = .ok (.iaload, 1) := by decide +kernel
theorem dX12_request_40 : decode cX12_request 40 = .ok (.iconst 1, 1) := by decide +kernel
theorem dX12_request_41 : decode cX12_request 41 = .ok (.if_icmp .ne 7, 3) := by decide +kernel
theorem dX12_request_44 : decode cX12_request 44 = .ok (.iconst 3, 1) := by decide +kernel
theorem dX12_request_45 : decode cX12_request 45 = .ok (.goto 4, 3) := by decide +kernel
theorem dX12_request_48 : decode cX12_request 48 = .ok (.iconst 0, 1) := by decide +kernel
theorem dX12_request_49 : decode cX12_request 49 = .ok (.putfield 229, 3) := by decide +kernel
theorem dX12_request_52 : decode cX12_request 52 = .ok (.aload_n 0, 1) := by decide +kernel
theorem dX12_request_53 : decode cX12_request 53 = .ok (.getfield 229, 3) := by decide +kernel
theorem dX12_request_56 : decode cX12_request 56 = .ok (.ifCond .le 5, 3) := by decide +kernel
theorem dX12_request_59 : decode cX12_request 59 = .ok (.iconst 0, 1) := by decide +kernel
theorem dX12_request_60 : decode cX12_request 60 = .ok (.ireturn, 1) := by decide +kernel
theorem dX12_request_61 : decode cX12_request 61 = .ok (.aload_n 0, 1) := by decide +kernel
theorem dX12_request_62 : decode cX12_request 62 = .ok (.dup, 1) := by decide +kernel
theorem dX12_request_63 : decode cX12_request 63 = .ok (.getfield 377, 3) := by decide +kernel
theorem dX12_request_66 : decode cX12_request 66 = .ok (.iconst 1, 1) := by decide +kernel
theorem dX12_request_67 : decode cX12_request 67 = .ok (.iadd, 1) := by decide +kernel
theorem dX12_request_68 : decode cX12_request 68 = .ok (.putfield 377, 3) := by decide +kernel
theorem dX12_request_71 : decode cX12_request 71 = .ok (.aload_n 0, 1) := by decide +kernel
theorem dX12_request_72 : decode cX12_request 72 = .ok (.getfield 160, 3) := by decide +kernel
theorem dX12_request_75 : decode cX12_request 75 = .ok (.iload_n 1, 1) := by decide +kernel
theorem dX12_request_76 : decode cX12_request 76 = .ok (.dup2, 1) := by decide +kernel
theorem dX12_request_77 : decode cX12_request 77 = .ok (.iaload, 1) := by decide +kernel
theorem dX12_request_78 : decode cX12_request 78 = .ok (.iconst 1, 1) := by decide +kernel
theorem dX12_request_79 : decode cX12_request 79 = .ok (.iadd, 1) := by decide +kernel
theorem dX12_request_80 : decode cX12_request 80 = .ok (.iastore, 1) := by decide +kernel
theorem dX12_request_81 : decode cX12_request 81 = .ok (.aload_n 0, 1) := by decide +kernel
theorem dX12_request_82 : decode cX12_request 82 = .ok (.getfield 7, 3) := by decide +kernel
theorem dX12_request_85 : decode cX12_request 85 = .ok (.aload_n 0, 1) := by decide +kernel
theorem dX12_request_86 : decode cX12_request 86 = .ok (.getfield 377, 3) := by decide +kernel
theorem dX12_request_89 : decode cX12_request 89 = .ok (.iload_n 1, 1) := by decide +kernel
theorem dX12_request_90 : decode cX12_request 90 = .ok (.iastore, 1) := by decide +kernel
theorem dX12_request_91 : decode cX12_request 91 = .ok (.aload_n 0, 1) := by decide +kernel
theorem dX12_request_92 : decode cX12_request 92 = .ok (.getfield 13, 3) := by decide +kernel
theorem dX12_request_95 : decode cX12_request 95 = .ok (.aload_n 0, 1) := by decide +kernel
theorem dX12_request_96 : decode cX12_request 96 = .ok (.getfield 377, 3) := by decide +kernel
theorem dX12_request_99 : decode cX12_request 99 = .ok (.aload_n 0, 1) := by decide +kernel
theorem dX12_request_100 : decode cX12_request 100 = .ok (.getfield 160, 3) := by decide +kernel
theorem dX12_request_103 : decode cX12_request 103 = .ok (.iload_n 1, 1) := by decide +kernel
theorem dX12_request_104 : decode cX12_request 104 = .ok (.iaload, 1) := by decide +kernel
theorem dX12_request_105 : decode cX12_request 105 = .ok (.iastore, 1) := by decide +kernel
theorem dX12_request_106 : decode cX12_request 106 = .ok (.aload_n 0, 1) := by decide +kernel
theorem dX12_request_107 : decode cX12_request 107 = .ok (.getfield 16, 3) := by decide +kernel
theorem dX12_request_110 : decode cX12_request 110 = .ok (.aload_n 0, 1) := by decide +kernel
theorem dX12_request_111 : decode cX12_request 111 = .ok (.getfield 377, 3) := by decide +kernel
theorem dX12_request_114 : decode cX12_request 114 = .ok (.iload_n 2, 1) := by decide +kernel
theorem dX12_request_115 : decode cX12_request 115 = .ok (.iastore, 1) := by decide +kernel
theorem dX12_request_116 : decode cX12_request 116 = .ok (.aload_n 0, 1) := by decide +kernel
theorem dX12_request_117 : decode cX12_request 117 = .ok (.getfield 19, 3) := by decide +kernel
theorem dX12_request_120 : decode cX12_request 120 = .ok (.aload_n 0, 1) := by decide +kernel
theorem dX12_request_121 : decode cX12_request 121 = .ok (.getfield 377, 3) := by decide +kernel
theorem dX12_request_124 : decode cX12_request 124 = .ok (.iload_n 3, 1) := by decide +kernel
theorem dX12_request_125 : decode cX12_request 125 = .ok (.iastore, 1) := by decide +kernel
theorem dX12_request_126 : decode cX12_request 126 = .ok (.aload_n 0, 1) := by decide +kernel
theorem dX12_request_127 : decode cX12_request 127 = .ok (.getfield 22, 3) := by decide +kernel
theorem dX12_request_130 : decode cX12_request 130 = .ok (.aload_n 0, 1) := by decide +kernel
theorem dX12_request_131 : decode cX12_request 131 = .ok (.getfield 377, 3) := by decide +kernel
theorem dX12_request_134 : decode cX12_request 134 = .ok (.iload 4, 2) := by decide +kernel
theorem dX12_request_136 : decode cX12_request 136 = .ok (.iastore, 1) := by decide +kernel
theorem dX12_request_137 : decode cX12_request 137 = .ok (.aload_n 0, 1) := by decide +kernel
theorem dX12_request_138 : decode cX12_request 138 = .ok (.getfield 163, 3) := by decide +kernel
theorem dX12_request_141 : decode cX12_request 141 = .ok (.iload_n 1, 1) := by decide +kernel
theorem dX12_request_142 : decode cX12_request 142 = .ok (.aload_n 0, 1) := by decide +kernel
theorem dX12_request_143 : decode cX12_request 143 = .ok (.getfield 377, 3) := by decide +kernel
theorem dX12_request_146 : decode cX12_request 146 = .ok (.iastore, 1) := by decide +kernel
theorem dX12_request_147 : decode cX12_request 147 = .ok (.aload_n 0, 1) := by decide +kernel
theorem dX12_request_148 : decode cX12_request 148 = .ok (.getfield 166, 3) := by decide +kernel
theorem dX12_request_151 : decode cX12_request 151 = .ok (.iload_n 1, 1) := by decide +kernel
theorem dX12_request_152 : decode cX12_request 152 = .ok (.iconst 1, 1) := by decide +kernel
theorem dX12_request_153 : decode cX12_request 153 = .ok (.iastore, 1) := by decide +kernel
theorem dX12_request_154 : decode cX12_request 154 = .ok (.aload_n 0, 1) := by decide +kernel
theorem dX12_request_155 : decode cX12_request 155 = .ok (.getfield 181, 3) := by decide +kernel
theorem dX12_request_158 : decode cX12_request 158 = .ok (.iload_n 1, 1) := by decide +kernel
theorem dX12_request_159 : decode cX12_request 159 = .ok (.iconst 0, 1) := by decide +kernel
theorem dX12_request_160 : decode cX12_request 160 = .ok (.iastore, 1) := by decide +kernel
theorem dX12_request_161 : decode cX12_request 161 = .ok (.aload_n 0, 1) := by decide +kernel
theorem dX12_request_162 : decode cX12_request 162 = .ok (.aload_n 0, 1) := by decide +kernel
theorem dX12_request_163 : decode cX12_request 163 = .ok (.getfield 377, 3) := by decide +kernel
theorem dX12_request_166 : decode cX12_request 166 = .ok (.invokevirtual 380, 3) := by decide +kernel
theorem dX12_request_169 : decode cX12_request 169 = .ok (.aload_n 0, 1) := by decide +kernel
theorem dX12_request_170 : decode cX12_request 170 = .ok (.getfield 160, 3) := by decide +kernel
theorem dX12_request_173 : decode cX12_request 173 = .ok (.iload_n 1, 1) := by decide +kernel
theorem dX12_request_174 : decode cX12_request 174 = .ok (.iaload, 1) := by decide +kernel
theorem dX12_request_175 : decode cX12_request 175 = .ok (.ireturn, 1) := by decide +kernel
theorem dX12_again_0 : decode cX12_again 0 = .ok (.aload_n 0, 1) := by decide +kernel
theorem dX12_again_1 : decode cX12_again 1 = .ok (.iload_n 1, 1) := by decide +kernel
theorem dX12_again_2 : decode cX12_again 2 = .ok (.iconst 4, 1) := by decide +kernel
theorem dX12_again_3 : decode cX12_again 3 = .ok (.invokestatic 374, 3) := by decide +kernel
theorem dX12_again_6 : decode cX12_again 6 = .ok (.ifCond .ne 7, 3) := by decide +kernel
theorem dX12_again_9 : decode cX12_again 9 = .ok (.iconst 1, 1) := by decide +kernel
theorem dX12_again_10 : decode cX12_again 10 = .ok (.goto 18, 3) := by decide +kernel
theorem dX12_again_13 : decode cX12_again 13 = .ok (.aload_n 0, 1) := by decide +kernel
theorem dX12_again_14 : decode cX12_again 14 = .ok (.getfield 166, 3) := by decide +kernel
theorem dX12_again_17 : decode cX12_again 17 = .ok (.iload_n 1, 1) := by decide +kernel
theorem dX12_again_18 : decode cX12_again 18 = .ok (.iaload, 1) := by decide +kernel
theorem dX12_again_19 : decode cX12_again 19 = .ok (.iconst 1, 1) := by decide +kernel
theorem dX12_again_20 : decode cX12_again 20 = .ok (.if_icmp .eq 7, 3) := by decide +kernel
theorem dX12_again_23 : decode cX12_again 23 = .ok (.iconst 2, 1) := by decide +kernel
theorem dX12_again_24 : decode cX12_again 24 = .ok (.goto 4, 3) := by decide +kernel
theorem dX12_again_27 : decode cX12_again 27 = .ok (.iconst 0, 1) := by decide +kernel
theorem dX12_again_28 : decode cX12_again 28 = .ok (.putfield 229, 3) := by decide +kernel
theorem dX12_again_31 : decode cX12_again 31 = .ok (.aload_n 0, 1) := by decide +kernel
theorem dX12_again_32 : decode cX12_again 32 = .ok (.getfield 229, 3) := by decide +kernel
theorem dX12_again_35 : decode cX12_again 35 = .ok (.ifCond .ne 13, 3) := by decide +kernel
theorem dX12_again_38 : decode cX12_again 38 = .ok (.aload_n 0, 1) := by decide +kernel
theorem dX12_again_39 : decode cX12_again 39 = .ok (.aload_n 0, 1) := by decide +kernel
theorem dX12_again_40 : decode cX12_again 40 = .ok (.getfield 163, 3) := by decide +kernel
theorem dX12_again_43 : decode cX12_again 43 = .ok (.iload_n 1, 1) := by decide +kernel
theorem dX12_again_44 : decode cX12_again 44 = .ok (.iaload, 1) := by decide +kernel
theorem dX12_again_45 : decode cX12_again 45 = .ok (.invokevirtual 380, 3) := by decide +kernel
theorem dX12_again_48 : decode cX12_again 48 = .ok (.return_, 1) := by decide +kernel
theorem dX12_deliver_0 : decode cX12_deliver 0 = .ok (.aload_n 0, 1) := by decide +kernel
theorem dX12_deliver_1 : decode cX12_deliver 1 = .ok (.iload_n 1, 1) := by decide +kernel
theorem dX12_deliver_2 : decode cX12_deliver 2 = .ok (.invokevirtual 383, 3) := by decide +kernel
theorem dX12_deliver_5 : decode cX12_deliver 5 = .ok (.istore_n 2, 1) := by decide +kernel
theorem dX12_deliver_6 : decode cX12_deliver 6 = .ok (.aload_n 0, 1) := by decide +kernel
theorem dX12_deliver_7 : decode cX12_deliver 7 = .ok (.iload_n 2, 1) := by decide +kernel
theorem dX12_deliver_8 : decode cX12_deliver 8 = .ok (.iconst (-1), 1) := by decide +kernel
theorem dX12_deliver_9 : decode cX12_deliver 9 = .ok (.if_icmp .ne 7, 3) := by decide +kernel
theorem dX12_deliver_12 : decode cX12_deliver 12 = .ok (.iconst 1, 1) := by decide +kernel
theorem dX12_deliver_13 : decode cX12_deliver 13 = .ok (.goto 4, 3) := by decide +kernel
theorem dX12_deliver_16 : decode cX12_deliver 16 = .ok (.iconst 0, 1) := by decide +kernel
theorem dX12_deliver_17 : decode cX12_deliver 17 = .ok (.putfield 229, 3) := by decide +kernel
theorem dX12_deliver_20 : decode cX12_deliver 20 = .ok (.aload_n 0, 1) := by decide +kernel
theorem dX12_deliver_21 : decode cX12_deliver 21 = .ok (.getfield 229, 3) := by decide +kernel
theorem dX12_deliver_24 : decode cX12_deliver 24 = .ok (.ifCond .ne 8, 3) := by decide +kernel
theorem dX12_deliver_27 : decode cX12_deliver 27 = .ok (.aload_n 0, 1) := by decide +kernel
theorem dX12_deliver_28 : decode cX12_deliver 28 = .ok (.iload_n 2, 1) := by decide +kernel
theorem dX12_deliver_29 : decode cX12_deliver 29 = .ok (.invokevirtual 386, 3) := by decide +kernel
theorem dX12_deliver_32 : decode cX12_deliver 32 = .ok (.return_, 1) := by decide +kernel
theorem dX12_lose_0 : decode cX12_lose 0 = .ok (.aload_n 0, 1) := by decide +kernel
theorem dX12_lose_1 : decode cX12_lose 1 = .ok (.iload_n 1, 1) := by decide +kernel
theorem dX12_lose_2 : decode cX12_lose 2 = .ok (.invokevirtual 383, 3) := by decide +kernel
theorem dX12_lose_5 : decode cX12_lose 5 = .ok (.istore_n 2, 1) := by decide +kernel
theorem dX12_lose_6 : decode cX12_lose 6 = .ok (.aload_n 0, 1) := by decide +kernel
theorem dX12_lose_7 : decode cX12_lose 7 = .ok (.iload_n 2, 1) := by decide +kernel
theorem dX12_lose_8 : decode cX12_lose 8 = .ok (.iconst (-1), 1) := by decide +kernel
theorem dX12_lose_9 : decode cX12_lose 9 = .ok (.if_icmp .ne 7, 3) := by decide +kernel
theorem dX12_lose_12 : decode cX12_lose 12 = .ok (.iconst 1, 1) := by decide +kernel
theorem dX12_lose_13 : decode cX12_lose 13 = .ok (.goto 4, 3) := by decide +kernel
theorem dX12_lose_16 : decode cX12_lose 16 = .ok (.iconst 0, 1) := by decide +kernel
theorem dX12_lose_17 : decode cX12_lose 17 = .ok (.putfield 229, 3) := by decide +kernel
theorem dX12_lose_20 : decode cX12_lose 20 = .ok (.aload_n 0, 1) := by decide +kernel
theorem dX12_lose_21 : decode cX12_lose 21 = .ok (.getfield 229, 3) := by decide +kernel
theorem dX12_lose_24 : decode cX12_lose 24 = .ok (.ifCond .le 4, 3) := by decide +kernel
theorem dX12_lose_27 : decode cX12_lose 27 = .ok (.return_, 1) := by decide +kernel
theorem dX12_lose_28 : decode cX12_lose 28 = .ok (.aload_n 0, 1) := by decide +kernel
theorem dX12_lose_29 : decode cX12_lose 29 = .ok (.iload_n 2, 1) := by decide +kernel
theorem dX12_lose_30 : decode cX12_lose 30 = .ok (.invokevirtual 352, 3) := by decide +kernel
theorem dX12_lose_33 : decode cX12_lose 33 = .ok (.istore_n 3, 1) := by decide +kernel
theorem dX12_lose_34 : decode cX12_lose 34 = .ok (.aload_n 0, 1) := by decide +kernel
theorem dX12_lose_35 : decode cX12_lose 35 = .ok (.dup, 1) := by decide +kernel
theorem dX12_lose_36 : decode cX12_lose 36 = .ok (.getfield 238, 3) := by decide +kernel
theorem dX12_lose_39 : decode cX12_lose 39 = .ok (.iconst 1, 1) := by decide +kernel
theorem dX12_lose_40 : decode cX12_lose 40 = .ok (.iadd, 1) := by decide +kernel
theorem dX12_lose_41 : decode cX12_lose 41 = .ok (.putfield 238, 3) := by decide +kernel
theorem dX12_lose_44 : decode cX12_lose 44 = .ok (.return_, 1) := by decide +kernel
theorem dX12_flow_0 : decode cX12_flow 0 = .ok (.aload_n 0, 1) := by decide +kernel
theorem dX12_flow_1 : decode cX12_flow 1 = .ok (.iload_n 1, 1) := by decide +kernel
theorem dX12_flow_2 : decode cX12_flow 2 = .ok (.bipush 41, 2) := by decide +kernel
theorem dX12_flow_4 : decode cX12_flow 4 = .ok (.invokestatic 374, 3) := by decide +kernel
theorem dX12_flow_7 : decode cX12_flow 7 = .ok (.ifCond .ne 7, 3) := by decide +kernel
theorem dX12_flow_10 : decode cX12_flow 10 = .ok (.iconst 1, 1) := by decide +kernel
theorem dX12_flow_11 : decode cX12_flow 11 = .ok (.goto 4, 3) := by decide +kernel
theorem dX12_flow_14 : decode cX12_flow 14 = .ok (.iconst 0, 1) := by decide +kernel
theorem dX12_flow_15 : decode cX12_flow 15 = .ok (.putfield 229, 3) := by decide +kernel
theorem dX12_flow_18 : decode cX12_flow 18 = .ok (.iconst 0, 1) := by decide +kernel
theorem dX12_flow_19 : decode cX12_flow 19 = .ok (.istore_n 2, 1) := by decide +kernel
theorem dX12_flow_20 : decode cX12_flow 20 = .ok (.aload_n 0, 1) := by decide +kernel
theorem dX12_flow_21 : decode cX12_flow 21 = .ok (.getfield 229, 3) := by decide +kernel
theorem dX12_flow_24 : decode cX12_flow 24 = .ok (.ifCond .ne 26, 3) := by decide +kernel
theorem dX12_flow_27 : decode cX12_flow 27 = .ok (.iload_n 2, 1) := by decide +kernel
theorem dX12_flow_28 : decode cX12_flow 28 = .ok (.iload_n 1, 1) := by decide +kernel
theorem dX12_flow_29 : decode cX12_flow 29 = .ok (.if_icmp .ge 21, 3) := by decide +kernel
theorem dX12_flow_32 : decode cX12_flow 32 = .ok (.aload_n 0, 1) := by decide +kernel
theorem dX12_flow_33 : decode cX12_flow 33 = .ok (.getfield 235, 3) := by decide +kernel
theorem dX12_flow_36 : decode cX12_flow 36 = .ok (.ifCond .le 14, 3) := by decide +kernel
theorem dX12_flow_39 : decode cX12_flow 39 = .ok (.aload_n 0, 1) := by decide +kernel
theorem dX12_flow_40 : decode cX12_flow 40 = .ok (.iconst 0, 1) := by decide +kernel
theorem dX12_flow_41 : decode cX12_flow 41 = .ok (.invokevirtual 386, 3) := by decide +kernel
theorem dX12_flow_44 : decode cX12_flow 44 = .ok (.iinc 2 1, 3) := by decide +kernel
theorem dX12_flow_47 : decode cX12_flow 47 = .ok (.goto (-27), 3) := by decide +kernel
theorem dX12_flow_50 : decode cX12_flow 50 = .ok (.iload_n 2, 1) := by decide +kernel
theorem dX12_flow_51 : decode cX12_flow 51 = .ok (.ireturn, 1) := by decide +kernel
theorem dX12_down_0 : decode cX12_down 0 = .ok (.iconst 0, 1) := by decide +kernel
theorem dX12_down_1 : decode cX12_down 1 = .ok (.istore_n 2, 1) := by decide +kernel
theorem dX12_down_2 : decode cX12_down 2 = .ok (.iconst 0, 1) := by decide +kernel
theorem dX12_down_3 : decode cX12_down 3 = .ok (.istore_n 3, 1) := by decide +kernel
theorem dX12_down_4 : decode cX12_down 4 = .ok (.iload_n 3, 1) := by decide +kernel
theorem dX12_down_5 : decode cX12_down 5 = .ok (.aload_n 0, 1) := by decide +kernel
theorem dX12_down_6 : decode cX12_down 6 = .ok (.getfield 223, 3) := by decide +kernel
theorem dX12_down_9 : decode cX12_down 9 = .ok (.if_icmp .ge 26, 3) := by decide +kernel
theorem dX12_down_12 : decode cX12_down 12 = .ok (.iload_n 2, 1) := by decide +kernel
theorem dX12_down_13 : decode cX12_down 13 = .ok (.aload_n 0, 1) := by decide +kernel
theorem dX12_down_14 : decode cX12_down 14 = .ok (.getfield 85, 3) := by decide +kernel
theorem dX12_down_17 : decode cX12_down 17 = .ok (.iload_n 3, 1) := by decide +kernel
theorem dX12_down_18 : decode cX12_down 18 = .ok (.baload, 1) := by decide +kernel
theorem dX12_down_19 : decode cX12_down 19 = .ok (.ifCond .eq 7, 3) := by decide +kernel
theorem dX12_down_22 : decode cX12_down 22 = .ok (.iconst 1, 1) := by decide +kernel
theorem dX12_down_23 : decode cX12_down 23 = .ok (.goto 4, 3) := by decide +kernel
theorem dX12_down_26 : decode cX12_down 26 = .ok (.iconst 0, 1) := by decide +kernel
theorem dX12_down_27 : decode cX12_down 27 = .ok (.iadd, 1) := by decide +kernel
theorem dX12_down_28 : decode cX12_down 28 = .ok (.istore_n 2, 1) := by decide +kernel
theorem dX12_down_29 : decode cX12_down 29 = .ok (.iinc 3 1, 3) := by decide +kernel
theorem dX12_down_32 : decode cX12_down 32 = .ok (.goto (-28), 3) := by decide +kernel
theorem dX12_down_35 : decode cX12_down 35 = .ok (.aload_n 0, 1) := by decide +kernel
theorem dX12_down_36 : decode cX12_down 36 = .ok (.iload_n 1, 1) := by decide +kernel
theorem dX12_down_37 : decode cX12_down 37 = .ok (.aload_n 0, 1) := by decide +kernel
theorem dX12_down_38 : decode cX12_down 38 = .ok (.getfield 223, 3) := by decide +kernel
theorem dX12_down_41 : decode cX12_down 41 = .ok (.invokestatic 374, 3) := by decide +kernel
theorem dX12_down_44 : decode cX12_down 44 = .ok (.ifCond .ne 7, 3) := by decide +kernel
theorem dX12_down_47 : decode cX12_down 47 = .ok (.iconst 1, 1) := by decide +kernel
theorem dX12_down_48 : decode cX12_down 48 = .ok (.goto 25, 3) := by decide +kernel
theorem dX12_down_51 : decode cX12_down 51 = .ok (.aload_n 0, 1) := by decide +kernel
theorem dX12_down_52 : decode cX12_down 52 = .ok (.getfield 85, 3) := by decide +kernel
theorem dX12_down_55 : decode cX12_down 55 = .ok (.iload_n 1, 1) := by decide +kernel
theorem dX12_down_56 : decode cX12_down 56 = .ok (.baload, 1) := by decide +kernel
theorem dX12_down_57 : decode cX12_down 57 = .ok (.ifCond .ne 11, 3) := by decide +kernel
theorem dX12_down_60 : decode cX12_down 60 = .ok (.iload_n 2, 1) := by decide +kernel
theorem dX12_down_61 : decode cX12_down 61 = .ok (.aload_n 0, 1) := by decide +kernel
theorem dX12_down_62 : decode cX12_down 62 = .ok (.getfield 226, 3) := by decide +kernel
theorem dX12_down_65 : decode cX12_down 65 = .ok (.if_icmp .ne 7, 3) := by decide +kernel
theorem dX12_down_68 : decode cX12_down 68 = .ok (.iconst 2, 1) := by decide +kernel
theorem dX12_down_69 : decode cX12_down 69 = .ok (.goto 4, 3) := by decide +kernel
theorem dX12_down_72 : decode cX12_down 72 = .ok (.iconst 0, 1) := by decide +kernel
theorem dX12_down_73 : decode cX12_down 73 = .ok (.putfield 229, 3) := by decide +kernel
theorem dX12_down_76 : decode cX12_down 76 = .ok (.aload_n 0, 1) := by decide +kernel
theorem dX12_down_77 : decode cX12_down 77 = .ok (.getfield 229, 3) := by decide +kernel
theorem dX12_down_80 : decode cX12_down 80 = .ok (.ifCond .le 4, 3) := by decide +kernel
theorem dX12_down_83 : decode cX12_down 83 = .ok (.return_, 1) := by decide +kernel
theorem dX12_down_84 : decode cX12_down 84 = .ok (.aload_n 0, 1) := by decide +kernel
theorem dX12_down_85 : decode cX12_down 85 = .ok (.getfield 85, 3) := by decide +kernel
theorem dX12_down_88 : decode cX12_down 88 = .ok (.iload_n 1, 1) := by decide +kernel
theorem dX12_down_89 : decode cX12_down 89 = .ok (.iconst 1, 1) := by decide +kernel
theorem dX12_down_90 : decode cX12_down 90 = .ok (.bastore, 1) := by decide +kernel
theorem dX12_down_91 : decode cX12_down 91 = .ok (.aload_n 0, 1) := by decide +kernel
theorem dX12_down_92 : decode cX12_down 92 = .ok (.iload_n 1, 1) := by decide +kernel
theorem dX12_down_93 : decode cX12_down 93 = .ok (.invokevirtual 280, 3) := by decide +kernel
theorem dX12_down_96 : decode cX12_down 96 = .ok (.return_, 1) := by decide +kernel
theorem dX12_up_0 : decode cX12_up 0 = .ok (.aload_n 0, 1) := by decide +kernel
theorem dX12_up_1 : decode cX12_up 1 = .ok (.iload_n 1, 1) := by decide +kernel
theorem dX12_up_2 : decode cX12_up 2 = .ok (.aload_n 0, 1) := by decide +kernel
theorem dX12_up_3 : decode cX12_up 3 = .ok (.getfield 223, 3) := by decide +kernel
theorem dX12_up_6 : decode cX12_up 6 = .ok (.invokestatic 374, 3) := by decide +kernel
theorem dX12_up_9 : decode cX12_up 9 = .ok (.ifCond .ne 7, 3) := by decide +kernel
theorem dX12_up_12 : decode cX12_up 12 = .ok (.iconst 1, 1) := by decide +kernel
theorem dX12_up_13 : decode cX12_up 13 = .ok (.goto 17, 3) := by decide +kernel
theorem dX12_up_16 : decode cX12_up 16 = .ok (.aload_n 0, 1) := by decide +kernel
theorem dX12_up_17 : decode cX12_up 17 = .ok (.getfield 85, 3) := by decide +kernel
theorem dX12_up_20 : decode cX12_up 20 = .ok (.iload_n 1, 1) := by decide +kernel
theorem dX12_up_21 : decode cX12_up 21 = .ok (.baload, 1) := by decide +kernel
theorem dX12_up_22 : decode cX12_up 22 = .ok (.ifCond .ne 7, 3) := by decide +kernel
theorem dX12_up_25 : decode cX12_up 25 = .ok (.iconst 2, 1) := by decide +kernel
theorem dX12_up_26 : decode cX12_up 26 = .ok (.goto 4, 3) := by decide +kernel
theorem dX12_up_29 : decode cX12_up 29 = .ok (.iconst 0, 1) := by decide +kernel
theorem dX12_up_30 : decode cX12_up 30 = .ok (.putfield 229, 3) := by decide +kernel
theorem dX12_up_33 : decode cX12_up 33 = .ok (.aload_n 0, 1) := by decide +kernel
theorem dX12_up_34 : decode cX12_up 34 = .ok (.getfield 229, 3) := by decide +kernel
theorem dX12_up_37 : decode cX12_up 37 = .ok (.ifCond .ne 10, 3) := by decide +kernel
theorem dX12_up_40 : decode cX12_up 40 = .ok (.aload_n 0, 1) := by decide +kernel
theorem dX12_up_41 : decode cX12_up 41 = .ok (.getfield 85, 3) := by decide +kernel
theorem dX12_up_44 : decode cX12_up 44 = .ok (.iload_n 1, 1) := by decide +kernel
theorem dX12_up_45 : decode cX12_up 45 = .ok (.iconst 0, 1) := by decide +kernel
theorem dX12_up_46 : decode cX12_up 46 = .ok (.bastore, 1) := by decide +kernel
theorem dX12_up_47 : decode cX12_up 47 = .ok (.return_, 1) := by decide +kernel
theorem dX12_may_0 : decode cX12_may 0 = .ok (.aload_n 0, 1) := by decide +kernel
theorem dX12_may_1 : decode cX12_may 1 = .ok (.iload_n 1, 1) := by decide +kernel
theorem dX12_may_2 : decode cX12_may 2 = .ok (.aload_n 0, 1) := by decide +kernel
theorem dX12_may_3 : decode cX12_may 3 = .ok (.getfield 223, 3) := by decide +kernel
theorem dX12_may_6 : decode cX12_may 6 = .ok (.invokestatic 374, 3) := by decide +kernel
theorem dX12_may_9 : decode cX12_may 9 = .ok (.ifCond .ne 7, 3) := by decide +kernel
theorem dX12_may_12 : decode cX12_may 12 = .ok (.iconst 1, 1) := by decide +kernel
theorem dX12_may_13 : decode cX12_may 13 = .ok (.goto 17, 3) := by decide +kernel
theorem dX12_may_16 : decode cX12_may 16 = .ok (.aload_n 0, 1) := by decide +kernel
theorem dX12_may_17 : decode cX12_may 17 = .ok (.getfield 85, 3) := by decide +kernel
theorem dX12_may_20 : decode cX12_may 20 = .ok (.iload_n 1, 1) := by decide +kernel
theorem dX12_may_21 : decode cX12_may 21 = .ok (.baload, 1) := by decide +kernel
theorem dX12_may_22 : decode cX12_may 22 = .ok (.ifCond .eq 7, 3) := by decide +kernel
theorem dX12_may_25 : decode cX12_may 25 = .ok (.iconst 2, 1) := by decide +kernel
theorem dX12_may_26 : decode cX12_may 26 = .ok (.goto 4, 3) := by decide +kernel
theorem dX12_may_29 : decode cX12_may 29 = .ok (.iconst 0, 1) := by decide +kernel
theorem dX12_may_30 : decode cX12_may 30 = .ok (.putfield 229, 3) := by decide +kernel
theorem dX12_may_33 : decode cX12_may 33 = .ok (.aload_n 0, 1) := by decide +kernel
theorem dX12_may_34 : decode cX12_may 34 = .ok (.getfield 229, 3) := by decide +kernel
theorem dX12_may_37 : decode cX12_may 37 = .ok (.ifCond .ne 7, 3) := by decide +kernel
theorem dX12_may_40 : decode cX12_may 40 = .ok (.iconst 1, 1) := by decide +kernel
theorem dX12_may_41 : decode cX12_may 41 = .ok (.goto 4, 3) := by decide +kernel
theorem dX12_may_44 : decode cX12_may 44 = .ok (.iconst 0, 1) := by decide +kernel
theorem dX12_may_45 : decode cX12_may 45 = .ok (.ireturn, 1) := by decide +kernel
theorem dX12_suspect_0 : decode cX12_suspect 0 = .ok (.aload_n 0, 1) := by decide +kernel
theorem dX12_suspect_1 : decode cX12_suspect 1 = .ok (.iload_n 1, 1) := by decide +kernel
theorem dX12_suspect_2 : decode cX12_suspect 2 = .ok (.invokevirtual 389, 3) := by decide +kernel
theorem dX12_suspect_5 : decode cX12_suspect 5 = .ok (.ifCond .eq 22, 3) := by decide +kernel
theorem dX12_suspect_8 : decode cX12_suspect 8 = .ok (.aload_n 0, 1) := by decide +kernel
theorem dX12_suspect_9 : decode cX12_suspect 9 = .ok (.iload_n 1, 1) := by decide +kernel
theorem dX12_suspect_10 : decode cX12_suspect 10 = .ok (.aload_n 0, 1) := by decide +kernel
theorem dX12_suspect_11 : decode cX12_suspect 11 = .ok (.getfield 88, 3) := by decide +kernel
theorem dX12_suspect_14 : decode cX12_suspect 14 = .ok (.iload_n 1, 1) := by decide +kernel
theorem dX12_suspect_15 : decode cX12_suspect 15 = .ok (.iaload, 1) := by decide +kernel
theorem dX12_suspect_16 : decode cX12_suspect 16 = .ok (.iconst 1, 1) := by decide +kernel
theorem dX12_suspect_17 : decode cX12_suspect 17 = .ok (.iadd, 1) := by decide +kernel
theorem dX12_suspect_18 : decode cX12_suspect 18 = .ok (.aload_n 0, 1) := by decide +kernel
theorem dX12_suspect_19 : decode cX12_suspect 19 = .ok (.getfield 91, 3) := by decide +kernel
theorem dX12_suspect_22 : decode cX12_suspect 22 = .ok (.iload_n 1, 1) := by decide +kernel
theorem dX12_suspect_23 : decode cX12_suspect 23 = .ok (.iaload, 1) := by decide +kernel
theorem dX12_suspect_24 : decode cX12_suspect 24 = .ok (.invokevirtual 312, 3) := by decide +kernel
theorem dX12_suspect_27 : decode cX12_suspect 27 = .ok (.return_, 1) := by decide +kernel
theorem dX12_nudge_0 : decode cX12_nudge 0 = .ok (.aload_n 0, 1) := by decide +kernel
theorem dX12_nudge_1 : decode cX12_nudge 1 = .ok (.iload_n 1, 1) := by decide +kernel
theorem dX12_nudge_2 : decode cX12_nudge 2 = .ok (.invokevirtual 389, 3) := by decide +kernel
theorem dX12_nudge_5 : decode cX12_nudge 5 = .ok (.ifCond .ne 5, 3) := by decide +kernel
theorem dX12_nudge_8 : decode cX12_nudge 8 = .ok (.iconst 0, 1) := by decide +kernel
theorem dX12_nudge_9 : decode cX12_nudge 9 = .ok (.ireturn, 1) := by decide +kernel
theorem dX12_nudge_10 : decode cX12_nudge 10 = .ok (.aload_n 0, 1) := by decide +kernel
theorem dX12_nudge_11 : decode cX12_nudge 11 = .ok (.getfield 232, 3) := by decide +kernel
theorem dX12_nudge_14 : decode cX12_nudge 14 = .ok (.istore_n 2, 1) := by decide +kernel
theorem dX12_nudge_15 : decode cX12_nudge 15 = .ok (.aload_n 0, 1) := by decide +kernel
theorem dX12_nudge_16 : decode cX12_nudge 16 = .ok (.getfield 94, 3) := by decide +kernel
theorem dX12_nudge_19 : decode cX12_nudge 19 = .ok (.iload_n 1, 1) := by decide +kernel
theorem dX12_nudge_20 : decode cX12_nudge 20 = .ok (.iaload, 1) := by decide +kernel
theorem dX12_nudge_21 : decode cX12_nudge 21 = .ok (.iconst 1, 1) := by decide +kernel
theorem dX12_nudge_22 : decode cX12_nudge 22 = .ok (.if_icmp .ne 18, 3) := by decide +kernel
theorem dX12_nudge_25 : decode cX12_nudge 25 = .ok (.aload_n 0, 1) := by decide +kernel
theorem dX12_nudge_26 : decode cX12_nudge 26 = .ok (.iconst 3, 1) := by decide +kernel
theorem dX12_nudge_27 : decode cX12_nudge 27 = .ok (.iload_n 1, 1) := by decide +kernel
theorem dX12_nudge_28 : decode cX12_nudge 28 = .ok (.aload_n 0, 1) := by decide +kernel
theorem dX12_nudge_29 : decode cX12_nudge 29 = .ok (.getfield 103, 3) := by decide +kernel
theorem dX12_nudge_32 : decode cX12_nudge 32 = .ok (.iload_n 1, 1) := by decide +kernel
theorem dX12_nudge_33 : decode cX12_nudge 33 = .ok (.iaload, 1) := by decide +kernel
theorem dX12_nudge_34 : decode cX12_nudge 34 = .ok (.invokevirtual 273, 3) := by decide +kernel
theorem dX12_nudge_37 : decode cX12_nudge 37 = .ok (.goto 87, 3) := by decide +kernel
theorem dX12_nudge_40 : decode cX12_nudge 40 = .ok (.aload_n 0, 1) := by decide +kernel
theorem dX12_nudge_41 : decode cX12_nudge 41 = .ok (.getfield 94, 3) := by decide +kernel
theorem dX12_nudge_44 : decode cX12_nudge 44 = .ok (.iload_n 1, 1) := by decide +kernel
theorem dX12_nudge_45 : decode cX12_nudge 45 = .ok (.iaload, 1) := by decide +kernel
theorem dX12_nudge_46 : decode cX12_nudge 46 = .ok (.iconst 2, 1) := by decide +kernel
theorem dX12_nudge_47 : decode cX12_nudge 47 = .ok (.if_icmp .ne 27, 3) := by decide +kernel
theorem dX12_nudge_50 : decode cX12_nudge 50 = .ok (.aload_n 0, 1) := by decide +kernel
theorem dX12_nudge_51 : decode cX12_nudge 51 = .ok (.bipush 8, 2) := by decide +kernel
theorem dX12_nudge_53 : decode cX12_nudge 53 = .ok (.iload_n 1, 1) := by decide +kernel
theorem dX12_nudge_54 : decode cX12_nudge 54 = .ok (.iconst 0, 1) := by decide +kernel
theorem dX12_nudge_55 : decode cX12_nudge 55 = .ok (.invokevirtual 273, 3) := by decide +kernel
theorem dX12_nudge_58 : decode cX12_nudge 58 = .ok (.aload_n 0, 1) := by decide +kernel
theorem dX12_nudge_59 : decode cX12_nudge 59 = .ok (.iload_n 1, 1) := by decide +kernel
theorem dX12_nudge_60 : decode cX12_nudge 60 = .ok (.invokevirtual 248, 3) := by decide +kernel
theorem dX12_nudge_63 : decode cX12_nudge 63 = .ok (.ifCond .ne 61, 3) := by decide +kernel
theorem dX12_nudge_66 : decode cX12_nudge 66 = .ok (.aload_n 0, 1) := by decide +kernel
theorem dX12_nudge_67 : decode cX12_nudge 67 = .ok (.iload_n 1, 1) := by decide +kernel
theorem dX12_nudge_68 : decode cX12_nudge 68 = .ok (.invokevirtual 284, 3) := by decide +kernel
theorem dX12_nudge_71 : decode cX12_nudge 71 = .ok (.goto 53, 3) := by decide +kernel
theorem dX12_nudge_74 : decode cX12_nudge 74 = .ok (.aload_n 0, 1) := by decide +kernel
theorem dX12_nudge_75 : decode cX12_nudge 75 = .ok (.iload_n 1, 1) := by decide +kernel
theorem dX12_nudge_76 : decode cX12_nudge 76 = .ok (.invokevirtual 248, 3) := by decide +kernel
theorem dX12_nudge_79 : decode cX12_nudge 79 = .ok (.ifCond .ne 45, 3) := by decide +kernel
theorem dX12_nudge_82 : decode cX12_nudge 82 = .ok (.aload_n 0, 1) := by decide +kernel
theorem dX12_nudge_83 : decode cX12_nudge 83 = .ok (.getfield 118, 3) := by decide +kernel
theorem dX12_nudge_86 : decode cX12_nudge 86 = .ok (.iload_n 1, 1) := by decide +kernel
theorem dX12_nudge_87 : decode cX12_nudge 87 = .ok (.iaload, 1) := by decide +kernel
theorem dX12_nudge_88 : decode cX12_nudge 88 = .ok (.ifCond .le 36, 3) := by decide +kernel
theorem dX12_nudge_91 : decode cX12_nudge 91 = .ok (.aload_n 0, 1) := by decide +kernel
theorem dX12_nudge_92 : decode cX12_nudge 92 = .ok (.iconst 1, 1) := by decide +kernel
theorem dX12_nudge_93 : decode cX12_nudge 93 = .ok (.iload_n 1, 1) := by decide +kernel
theorem dX12_nudge_94 : decode cX12_nudge 94 = .ok (.aload_n 0, 1) := by decide +kernel
theorem dX12_nudge_95 : decode cX12_nudge 95 = .ok (.iload_n 1, 1) := by decide +kernel
theorem dX12_nudge_96 : decode cX12_nudge 96 = .ok (.invokevirtual 269, 3) := by decide +kernel
theorem dX12_nudge_99 : decode cX12_nudge 99 = .ok (.aload_n 0, 1) := by decide +kernel
theorem dX12_nudge_100 : decode cX12_nudge 100 = .ok (.getfield 88, 3) := by decide +kernel
theorem dX12_nudge_103 : decode cX12_nudge 103 = .ok (.iload_n 1, 1) := by decide +kernel
theorem dX12_nudge_104 : decode cX12_nudge 104 = .ok (.iaload, 1) := by decide +kernel
theorem dX12_nudge_105 : decode cX12_nudge 105 = .ok (.aload_n 0, 1) := by decide +kernel
theorem dX12_nudge_106 : decode cX12_nudge 106 = .ok (.getfield 91, 3) := by decide +kernel
theorem dX12_nudge_109 : decode cX12_nudge 109 = .ok (.iload_n 1, 1) := by decide +kernel
theorem dX12_nudge_110 : decode cX12_nudge 110 = .ok (.iaload, 1) := by decide +kernel
theorem dX12_nudge_111 : decode cX12_nudge 111 = .ok (.aload_n 0, 1) := by decide +kernel
theorem dX12_nudge_112 : decode cX12_nudge 112 = .ok (.getfield 103, 3) := by decide +kernel
theorem dX12_nudge_115 : decode cX12_nudge 115 = .ok (.iload_n 1, 1) := by decide +kernel
theorem dX12_nudge_116 : decode cX12_nudge 116 = .ok (.iaload, 1) := by decide +kernel
theorem dX12_nudge_117 : decode cX12_nudge 117 = .ok (.iconst 1, 1) := by decide +kernel
theorem dX12_nudge_118 : decode cX12_nudge 118 = .ok (.iadd, 1) := by decide +kernel
theorem dX12_nudge_119 : decode cX12_nudge 119 = .ok (.iconst 0, 1) := by decide +kernel
theorem dX12_nudge_120 : decode cX12_nudge 120 = .ok (.invokevirtual 241, 3) := by decide +kernel
theorem dX12_nudge_123 : decode cX12_nudge 123 = .ok (.pop, 1) := by decide +kernel
theorem dX12_nudge_124 : decode cX12_nudge 124 = .ok (.aload_n 0, 1) := by decide +kernel
theorem dX12_nudge_125 : decode cX12_nudge 125 = .ok (.getfield 232, 3) := by decide +kernel
theorem dX12_nudge_128 : decode cX12_nudge 128 = .ok (.iload_n 2, 1) := by decide +kernel
theorem dX12_nudge_129 : decode cX12_nudge 129 = .ok (.isub, 1) := by decide +kernel
theorem dX12_nudge_130 : decode cX12_nudge 130 = .ok (.ireturn, 1) := by decide +kernel
theorem dX12_sync__0 : decode cX12_sync_ 0 = .ok (.iload_n 1, 1) := by decide +kernel
theorem dX12_sync__1 : decode cX12_sync_ 1 = .ok (.istore_n 2, 1) := by decide +kernel
theorem dX12_sync__2 : decode cX12_sync_ 2 = .ok (.aload_n 0, 1) := by decide +kernel
theorem dX12_sync__3 : decode cX12_sync_ 3 = .ok (.iload_n 2, 1) := by decide +kernel
theorem dX12_sync__4 : decode cX12_sync_ 4 = .ok (.aload_n 0, 1) := by decide +kernel
theorem dX12_sync__5 : decode cX12_sync_ 5 = .ok (.getfield 223, 3) := by decide +kernel
theorem dX12_sync__8 : decode cX12_sync_ 8 = .ok (.invokestatic 374, 3) := by decide +kernel
theorem dX12_sync__11 : decode cX12_sync_ 11 = .ok (.ifCond .ne 7, 3) := by decide +kernel
theorem dX12_sync__14 : decode cX12_sync_ 14 = .ok (.iconst 1, 1) := by decide +kernel
theorem dX12_sync__15 : decode cX12_sync_ 15 = .ok (.goto 34, 3) := by decide +kernel
theorem dX12_sync__18 : decode cX12_sync_ 18 = .ok (.aload_n 0, 1) := by decide +kernel
theorem dX12_sync__19 : decode cX12_sync_ 19 = .ok (.getfield 85, 3) := by decide +kernel
theorem dX12_sync__22 : decode cX12_sync_ 22 = .ok (.iload_n 2, 1) := by decide +kernel
theorem dX12_sync__23 : decode cX12_sync_ 23 = .ok (.baload, 1) := by decide +kernel
theorem dX12_sync__24 : decode cX12_sync_ 24 = .ok (.ifCond .ne 20, 3) := by decide +kernel
theorem dX12_sync__27 : decode cX12_sync_ 27 = .ok (.aload_n 0, 1) := by decide +kernel
theorem dX12_sync__28 : decode cX12_sync_ 28 = .ok (.iload_n 2, 1) := by decide +kernel
theorem dX12_sync__29 : decode cX12_sync_ 29 = .ok (.invokevirtual 248, 3) := by decide +kernel
theorem dX12_sync__32 : decode cX12_sync_ 32 = .ok (.ifCond .eq 12, 3) := by decide +kernel
theorem dX12_sync__35 : decode cX12_sync_ 35 = .ok (.aload_n 0, 1) := by decide +kernel
theorem dX12_sync__36 : decode cX12_sync_ 36 = .ok (.getfield 94, 3) := by decide +kernel
theorem dX12_sync__39 : decode cX12_sync_ 39 = .ok (.iload_n 2, 1) := by decide +kernel
theorem dX12_sync__40 : decode cX12_sync_ 40 = .ok (.iaload, 1) := by decide +kernel
theorem dX12_sync__41 : decode cX12_sync_ 41 = .ok (.ifCond .eq 7, 3) := by decide +kernel
theorem dX12_sync__44 : decode cX12_sync_ 44 = .ok (.iconst 2, 1) := by decide +kernel
theorem dX12_sync__45 : decode cX12_sync_ 45 = .ok (.goto 4, 3) := by decide +kernel
theorem dX12_sync__48 : decode cX12_sync_ 48 = .ok (.iconst 0, 1) := by decide +kernel
theorem dX12_sync__49 : decode cX12_sync_ 49 = .ok (.putfield 229, 3) := by decide +kernel
theorem dX12_sync__52 : decode cX12_sync_ 52 = .ok (.aload_n 0, 1) := by decide +kernel
theorem dX12_sync__53 : decode cX12_sync_ 53 = .ok (.getfield 229, 3) := by decide +kernel
theorem dX12_sync__56 : decode cX12_sync_ 56 = .ok (.ifCond .le 4, 3) := by decide +kernel
theorem dX12_sync__59 : decode cX12_sync_ 59 = .ok (.return_, 1) := by decide +kernel
theorem dX12_sync__60 : decode cX12_sync_ 60 = .ok (.iconst 0, 1) := by decide +kernel
theorem dX12_sync__61 : decode cX12_sync_ 61 = .ok (.istore_n 3, 1) := by decide +kernel
theorem dX12_sync__62 : decode cX12_sync_ 62 = .ok (.iload_n 3, 1) := by decide +kernel
theorem dX12_sync__63 : decode cX12_sync_ 63 = .ok (.aload_n 0, 1) := by decide +kernel
theorem dX12_sync__64 : decode cX12_sync_ 64 = .ok (.getfield 223, 3) := by decide +kernel
theorem dX12_sync__67 : decode cX12_sync_ 67 = .ok (.if_icmp .ge 51, 3) := by decide +kernel
theorem dX12_sync__70 : decode cX12_sync_ 70 = .ok (.iload_n 3, 1) := by decide +kernel
theorem dX12_sync__71 : decode cX12_sync_ 71 = .ok (.iload_n 2, 1) := by decide +kernel
theorem dX12_sync__72 : decode cX12_sync_ 72 = .ok (.if_icmp .eq 40, 3) := by decide +kernel
theorem dX12_sync__75 : decode cX12_sync_ 75 = .ok (.aload_n 0, 1) := by decide +kernel
theorem dX12_sync__76 : decode cX12_sync_ 76 = .ok (.aload_n 0, 1) := by decide +kernel
theorem dX12_sync__77 : decode cX12_sync_ 77 = .ok (.iconst 5, 1) := by decide +kernel
theorem dX12_sync__78 : decode cX12_sync_ 78 = .ok (.iload_n 2, 1) := by decide +kernel
theorem dX12_sync__79 : decode cX12_sync_ 79 = .ok (.iload_n 3, 1) := by decide +kernel
theorem dX12_sync__80 : decode cX12_sync_ 80 = .ok (.aload_n 0, 1) := by decide +kernel
theorem dX12_sync__81 : decode cX12_sync_ 81 = .ok (.getfield 88, 3) := by decide +kernel
theorem dX12_sync__84 : decode cX12_sync_ 84 = .ok (.iload_n 2, 1) := by decide +kernel
theorem dX12_sync__85 : decode cX12_sync_ 85 = .ok (.iaload, 1) := by decide +kernel
theorem dX12_sync__86 : decode cX12_sync_ 86 = .ok (.aload_n 0, 1) := by decide +kernel
theorem dX12_sync__87 : decode cX12_sync_ 87 = .ok (.getfield 91, 3) := by decide +kernel
theorem dX12_sync__90 : decode cX12_sync_ 90 = .ok (.iload_n 2, 1) := by decide +kernel
theorem dX12_sync__91 : decode cX12_sync_ 91 = .ok (.iaload, 1) := by decide +kernel
theorem dX12_sync__92 : decode cX12_sync_ 92 = .ok (.aload_n 0, 1) := by decide +kernel
theorem dX12_sync__93 : decode cX12_sync_ 93 = .ok (.getfield 103, 3) := by decide +kernel
theorem dX12_sync__96 : decode cX12_sync_ 96 = .ok (.iload_n 2, 1) := by decide +kernel
theorem dX12_sync__97 : decode cX12_sync_ 97 = .ok (.iaload, 1) := by decide +kernel
theorem dX12_sync__98 : decode cX12_sync_ 98 = .ok (.iconst 0, 1) := by decide +kernel
theorem dX12_sync__99 : decode cX12_sync_ 99 = .ok (.invokevirtual 241, 3) := by decide +kernel
theorem dX12_sync__102 : decode cX12_sync_ 102 = .ok (.iload_n 2, 1) := by decide +kernel
theorem dX12_sync__103 : decode cX12_sync_ 103 = .ok (.aload_n 0, 1) := by decide +kernel
theorem dX12_sync__104 : decode cX12_sync_ 104 = .ok (.getfield 103, 3) := by decide +kernel
theorem dX12_sync__107 : decode cX12_sync_ 107 = .ok (.iload_n 2, 1) := by decide +kernel
theorem dX12_sync__108 : decode cX12_sync_ 108 = .ok (.iaload, 1) := by decide +kernel
theorem dX12_sync__109 : decode cX12_sync_ 109 = .ok (.invokevirtual 277, 3) := by decide +kernel
theorem dX12_sync__112 : decode cX12_sync_ 112 = .ok (.iinc 3 1, 3) := by decide +kernel
theorem dX12_sync__115 : decode cX12_sync_ 115 = .ok (.goto (-53), 3) := by decide +kernel
theorem dX12_sync__118 : decode cX12_sync_ 118 = .ok (.return_, 1) := by decide +kernel
theorem dX12_fail_0 : decode cX12_fail 0 = .ok (.aload_n 0, 1) := by decide +kernel
theorem dX12_fail_1 : decode cX12_fail 1 = .ok (.iconst 0, 1) := by decide +kernel
theorem dX12_fail_2 : decode cX12_fail 2 = .ok (.putfield 229, 3) := by decide +kernel
theorem dX12_fail_5 : decode cX12_fail 5 = .ok (.aload_n 0, 1) := by decide +kernel
theorem dX12_fail_6 : decode cX12_fail 6 = .ok (.getfield 25, 3) := by decide +kernel
theorem dX12_fail_9 : decode cX12_fail 9 = .ok (.istore_n 1, 1) := by decide +kernel
theorem dX12_fail_10 : decode cX12_fail 10 = .ok (.aload_n 0, 1) := by decide +kernel
theorem dX12_fail_11 : decode cX12_fail 11 = .ok (.iconst 0, 1) := by decide +kernel
theorem dX12_fail_12 : decode cX12_fail 12 = .ok (.putfield 25, 3) := by decide +kernel
theorem dX12_fail_15 : decode cX12_fail 15 = .ok (.iload_n 1, 1) := by decide +kernel
theorem dX12_fail_16 : decode cX12_fail 16 = .ok (.ireturn, 1) := by decide +kernel
theorem dX12_install_0 : decode cX12_install 0 = .ok (.aload_n 0, 1) := by decide +kernel
theorem dX12_install_1 : decode cX12_install 1 = .ok (.iconst 0, 1) := by decide +kernel
theorem dX12_install_2 : decode cX12_install 2 = .ok (.putfield 229, 3) := by decide +kernel
theorem dX12_install_5 : decode cX12_install 5 = .ok (.aload_n 0, 1) := by decide +kernel
theorem dX12_install_6 : decode cX12_install 6 = .ok (.iconst 1, 1) := by decide +kernel
theorem dX12_install_7 : decode cX12_install 7 = .ok (.putfield 25, 3) := by decide +kernel
theorem dX12_install_10 : decode cX12_install 10 = .ok (.aload_n 0, 1) := by decide +kernel
theorem dX12_install_11 : decode cX12_install 11 = .ok (.dup, 1) := by decide +kernel
theorem dX12_install_12 : decode cX12_install 12 = .ok (.getfield 29, 3) := by decide +kernel
theorem dX12_install_15 : decode cX12_install 15 = .ok (.iconst 1, 1) := by decide +kernel
theorem dX12_install_16 : decode cX12_install 16 = .ok (.iadd, 1) := by decide +kernel
theorem dX12_install_17 : decode cX12_install 17 = .ok (.putfield 29, 3) := by decide +kernel
theorem dX12_install_20 : decode cX12_install 20 = .ok (.aload_n 0, 1) := by decide +kernel
theorem dX12_install_21 : decode cX12_install 21 = .ok (.iconst 0, 1) := by decide +kernel
theorem dX12_install_22 : decode cX12_install 22 = .ok (.putfield 245, 3) := by decide +kernel
theorem dX12_install_25 : decode cX12_install 25 = .ok (.aload_n 0, 1) := by decide +kernel
theorem dX12_install_26 : decode cX12_install 26 = .ok (.getfield 29, 3) := by decide +kernel
theorem dX12_install_29 : decode cX12_install 29 = .ok (.ireturn, 1) := by decide +kernel
theorem dX12_replica_0 : decode cX12_replica 0 = .ok (.aload_n 0, 1) := by decide +kernel
theorem dX12_replica_1 : decode cX12_replica 1 = .ok (.iconst 0, 1) := by decide +kernel
theorem dX12_replica_2 : decode cX12_replica 2 = .ok (.putfield 229, 3) := by decide +kernel
theorem dX12_replica_5 : decode cX12_replica 5 = .ok (.iload_n 1, 1) := by decide +kernel
theorem dX12_replica_6 : decode cX12_replica 6 = .ok (.aload_n 0, 1) := by decide +kernel
theorem dX12_replica_7 : decode cX12_replica 7 = .ok (.getfield 223, 3) := by decide +kernel
theorem dX12_replica_10 : decode cX12_replica 10 = .ok (.invokestatic 374, 3) := by decide +kernel
theorem dX12_replica_13 : decode cX12_replica 13 = .ok (.ifCond .ne 5, 3) := by decide +kernel
theorem dX12_replica_16 : decode cX12_replica 16 = .ok (.iconst (-1), 1) := by decide +kernel
theorem dX12_replica_17 : decode cX12_replica 17 = .ok (.ireturn, 1) := by decide +kernel
theorem dX12_replica_18 : decode cX12_replica 18 = .ok (.iload_n 2, 1) := by decide +kernel
theorem dX12_replica_19 : decode cX12_replica 19 = .ok (.tableswitch 142 0 10 #[57, 72, 79, 86, 93, 100, 107, 114, 121, 128, 135], 57) := by decide +kernel
theorem dX12_replica_76 : decode cX12_replica 76 = .ok (.aload_n 0, 1) := by decide +kernel
theorem dX12_replica_77 : decode cX12_replica 77 = .ok (.getfield 85, 3) := by decide +kernel
theorem dX12_replica_80 : decode cX12_replica 80 = .ok (.iload_n 1, 1) := by decide +kernel
theorem dX12_replica_81 : decode cX12_replica 81 = .ok (.baload, 1) := by decide +kernel
theorem dX12_replica_82 : decode cX12_replica 82 = .ok (.ifCond .eq 7, 3) := by decide +kernel
theorem dX12_replica_85 : decode cX12_replica 85 = .ok (.iconst 1, 1) := by decide +kernel
theorem dX12_replica_86 : decode cX12_replica 86 = .ok (.goto 4, 3) := by decide +kernel
theorem dX12_replica_89 : decode cX12_replica 89 = .ok (.iconst 0, 1) := by decide +kernel
theorem dX12_replica_90 : decode cX12_replica 90 = .ok (.ireturn, 1) := by decide +kernel
theorem dX12_replica_91 : decode cX12_replica 91 = .ok (.aload_n 0, 1) := by decide +kernel
theorem dX12_replica_92 : decode cX12_replica 92 = .ok (.getfield 94, 3) := by decide +kernel
theorem dX12_replica_95 : decode cX12_replica 95 = .ok (.iload_n 1, 1) := by decide +kernel
theorem dX12_replica_96 : decode cX12_replica 96 = .ok (.iaload, 1) := by decide +kernel
theorem dX12_replica_97 : decode cX12_replica 97 = .ok (.ireturn, 1) := by decide +kernel
theorem dX12_replica_98 : decode cX12_replica 98 = .ok (.aload_n 0, 1) := by decide +kernel
theorem dX12_replica_99 : decode cX12_replica 99 = .ok (.getfield 88, 3) := by decide +kernel
theorem dX12_replica_102 : decode cX12_replica 102 = .ok (.iload_n 1, 1) := by decide +kernel
theorem dX12_replica_103 : decode cX12_replica 103 = .ok (.iaload, 1) := by decide +kernel
theorem dX12_replica_104 : decode cX12_replica 104 = .ok (.ireturn, 1) := by decide +kernel
theorem dX12_replica_105 : decode cX12_replica 105 = .ok (.aload_n 0, 1) := by decide +kernel
theorem dX12_replica_106 : decode cX12_replica 106 = .ok (.getfield 91, 3) := by decide +kernel
theorem dX12_replica_109 : decode cX12_replica 109 = .ok (.iload_n 1, 1) := by decide +kernel
theorem dX12_replica_110 : decode cX12_replica 110 = .ok (.iaload, 1) := by decide +kernel
theorem dX12_replica_111 : decode cX12_replica 111 = .ok (.ireturn, 1) := by decide +kernel
theorem dX12_replica_112 : decode cX12_replica 112 = .ok (.aload_n 0, 1) := by decide +kernel
theorem dX12_replica_113 : decode cX12_replica 113 = .ok (.getfield 106, 3) := by decide +kernel
theorem dX12_replica_116 : decode cX12_replica 116 = .ok (.iload_n 1, 1) := by decide +kernel
theorem dX12_replica_117 : decode cX12_replica 117 = .ok (.iaload, 1) := by decide +kernel
theorem dX12_replica_118 : decode cX12_replica 118 = .ok (.ireturn, 1) := by decide +kernel
theorem dX12_replica_119 : decode cX12_replica 119 = .ok (.aload_n 0, 1) := by decide +kernel
theorem dX12_replica_120 : decode cX12_replica 120 = .ok (.getfield 103, 3) := by decide +kernel
theorem dX12_replica_123 : decode cX12_replica 123 = .ok (.iload_n 1, 1) := by decide +kernel
theorem dX12_replica_124 : decode cX12_replica 124 = .ok (.iaload, 1) := by decide +kernel
theorem dX12_replica_125 : decode cX12_replica 125 = .ok (.ireturn, 1) := by decide +kernel
theorem dX12_replica_126 : decode cX12_replica 126 = .ok (.aload_n 0, 1) := by decide +kernel
theorem dX12_replica_127 : decode cX12_replica 127 = .ok (.getfield 109, 3) := by decide +kernel
theorem dX12_replica_130 : decode cX12_replica 130 = .ok (.iload_n 1, 1) := by decide +kernel
theorem dX12_replica_131 : decode cX12_replica 131 = .ok (.iaload, 1) := by decide +kernel
theorem dX12_replica_132 : decode cX12_replica 132 = .ok (.ireturn, 1) := by decide +kernel
theorem dX12_replica_133 : decode cX12_replica 133 = .ok (.aload_n 0, 1) := by decide +kernel
theorem dX12_replica_134 : decode cX12_replica 134 = .ok (.getfield 118, 3) := by decide +kernel
theorem dX12_replica_137 : decode cX12_replica 137 = .ok (.iload_n 1, 1) := by decide +kernel
theorem dX12_replica_138 : decode cX12_replica 138 = .ok (.iaload, 1) := by decide +kernel
theorem dX12_replica_139 : decode cX12_replica 139 = .ok (.ireturn, 1) := by decide +kernel
theorem dX12_replica_140 : decode cX12_replica 140 = .ok (.aload_n 0, 1) := by decide +kernel
theorem dX12_replica_141 : decode cX12_replica 141 = .ok (.getfield 97, 3) := by decide +kernel
theorem dX12_replica_144 : decode cX12_replica 144 = .ok (.iload_n 1, 1) := by decide +kernel
theorem dX12_replica_145 : decode cX12_replica 145 = .ok (.iaload, 1) := by decide +kernel
theorem dX12_replica_146 : decode cX12_replica 146 = .ok (.ireturn, 1) := by decide +kernel
theorem dX12_replica_147 : decode cX12_replica 147 = .ok (.aload_n 0, 1) := by decide +kernel
theorem dX12_replica_148 : decode cX12_replica 148 = .ok (.getfield 100, 3) := by decide +kernel
theorem dX12_replica_151 : decode cX12_replica 151 = .ok (.iload_n 1, 1) := by decide +kernel
theorem dX12_replica_152 : decode cX12_replica 152 = .ok (.iaload, 1) := by decide +kernel
theorem dX12_replica_153 : decode cX12_replica 153 = .ok (.ireturn, 1) := by decide +kernel
theorem dX12_replica_154 : decode cX12_replica 154 = .ok (.aload_n 0, 1) := by decide +kernel
theorem dX12_replica_155 : decode cX12_replica 155 = .ok (.getfield 112, 3) := by decide +kernel
theorem dX12_replica_158 : decode cX12_replica 158 = .ok (.iload_n 1, 1) := by decide +kernel
theorem dX12_replica_159 : decode cX12_replica 159 = .ok (.iaload, 1) := by decide +kernel
theorem dX12_replica_160 : decode cX12_replica 160 = .ok (.ireturn, 1) := by decide +kernel
theorem dX12_replica_161 : decode cX12_replica 161 = .ok (.iconst (-1), 1) := by decide +kernel
theorem dX12_replica_162 : decode cX12_replica 162 = .ok (.ireturn, 1) := by decide +kernel
theorem dX12_entry_0 : decode cX12_entry 0 = .ok (.aload_n 0, 1) := by decide +kernel
theorem dX12_entry_1 : decode cX12_entry 1 = .ok (.iconst 0, 1) := by decide +kernel
theorem dX12_entry_2 : decode cX12_entry 2 = .ok (.putfield 229, 3) := by decide +kernel
theorem dX12_entry_5 : decode cX12_entry 5 = .ok (.iload_n 3, 1) := by decide +kernel
theorem dX12_entry_6 : decode cX12_entry 6 = .ok (.iconst 5, 1) := by decide +kernel
theorem dX12_entry_7 : decode cX12_entry 7 = .ok (.if_icmp .ne 7, 3) := by decide +kernel
theorem dX12_entry_10 : decode cX12_entry 10 = .ok (.iconst 0, 1) := by decide +kernel
theorem dX12_entry_11 : decode cX12_entry 11 = .ok (.goto 4, 3) := by decide +kernel
theorem dX12_entry_14 : decode cX12_entry 14 = .ok (.iconst (-1), 1) := by decide +kernel
theorem dX12_entry_15 : decode cX12_entry 15 = .ok (.istore 4, 2) := by decide +kernel
theorem dX12_entry_17 : decode cX12_entry 17 = .ok (.iload_n 1, 1) := by decide +kernel
theorem dX12_entry_18 : decode cX12_entry 18 = .ok (.aload_n 0, 1) := by decide +kernel
theorem dX12_entry_19 : decode cX12_entry 19 = .ok (.getfield 223, 3) := by decide +kernel
theorem dX12_entry_22 : decode cX12_entry 22 = .ok (.invokestatic 374, 3) := by decide +kernel
theorem dX12_entry_25 : decode cX12_entry 25 = .ok (.ifCond .eq 18, 3) := by decide +kernel
theorem dX12_entry_28 : decode cX12_entry 28 = .ok (.iload_n 2, 1) := by decide +kernel
theorem dX12_entry_29 : decode cX12_entry 29 = .ok (.iconst 1, 1) := by decide +kernel
theorem dX12_entry_30 : decode cX12_entry 30 = .ok (.if_icmp .lt 13, 3) := by decide +kernel
theorem dX12_entry_33 : decode cX12_entry 33 = .ok (.iload_n 2, 1) := by decide +kernel
theorem dX12_entry_34 : decode cX12_entry 34 = .ok (.aload_n 0, 1) := by decide +kernel
theorem dX12_entry_35 : decode cX12_entry 35 = .ok (.getfield 103, 3) := by decide +kernel
theorem dX12_entry_38 : decode cX12_entry 38 = .ok (.iload_n 1, 1) := by decide +kernel
theorem dX12_entry_39 : decode cX12_entry 39 = .ok (.iaload, 1) := by decide +kernel
theorem dX12_entry_40 : decode cX12_entry 40 = .ok (.if_icmp .le 6, 3) := by decide +kernel
theorem dX12_entry_43 : decode cX12_entry 43 = .ok (.iload 4, 2) := by decide +kernel
theorem dX12_entry_45 : decode cX12_entry 45 = .ok (.ireturn, 1) := by decide +kernel
theorem dX12_entry_46 : decode cX12_entry 46 = .ok (.aload_n 0, 1) := by decide +kernel
theorem dX12_entry_47 : decode cX12_entry 47 = .ok (.getfield 115, 3) := by decide +kernel
theorem dX12_entry_50 : decode cX12_entry 50 = .ok (.bipush 100, 2) := by decide +kernel
theorem dX12_entry_52 : decode cX12_entry 52 = .ok (.iload_n 1, 1) := by decide +kernel
theorem dX12_entry_53 : decode cX12_entry 53 = .ok (.imul, 1) := by decide +kernel
theorem dX12_entry_54 : decode cX12_entry 54 = .ok (.iload_n 2, 1) := by decide +kernel
theorem dX12_entry_55 : decode cX12_entry 55 = .ok (.iadd, 1) := by decide +kernel
theorem dX12_entry_56 : decode cX12_entry 56 = .ok (.iconst 1, 1) := by decide +kernel
theorem dX12_entry_57 : decode cX12_entry 57 = .ok (.isub, 1) := by decide +kernel
theorem dX12_entry_58 : decode cX12_entry 58 = .ok (.iaload, 1) := by decide +kernel
theorem dX12_entry_59 : decode cX12_entry 59 = .ok (.istore 5, 2) := by decide +kernel
theorem dX12_entry_61 : decode cX12_entry 61 = .ok (.iload_n 3, 1) := by decide +kernel
theorem dX12_entry_62 : decode cX12_entry 62 = .ok (.ifCond .ne 14, 3) := by decide +kernel
theorem dX12_entry_65 : decode cX12_entry 65 = .ok (.iload 5, 2) := by decide +kernel
theorem dX12_entry_67 : decode cX12_entry 67 = .ok (.ifCond .ne 7, 3) := by decide +kernel
theorem dX12_entry_70 : decode cX12_entry 70 = .ok (.iconst 0, 1) := by decide +kernel
theorem dX12_entry_71 : decode cX12_entry 71 = .ok (.goto 4, 3) := by decide +kernel
theorem dX12_entry_74 : decode cX12_entry 74 = .ok (.iconst 1, 1) := by decide +kernel
theorem dX12_entry_75 : decode cX12_entry 75 = .ok (.ireturn, 1) := by decide +kernel
theorem dX12_entry_76 : decode cX12_entry 76 = .ok (.iload 5, 2) := by decide +kernel
theorem dX12_entry_78 : decode cX12_entry 78 = .ok (.ifCond .ne 6, 3) := by decide +kernel
theorem dX12_entry_81 : decode cX12_entry 81 = .ok (.iload 4, 2) := by decide +kernel
theorem dX12_entry_83 : decode cX12_entry 83 = .ok (.ireturn, 1) := by decide +kernel
theorem dX12_entry_84 : decode cX12_entry 84 = .ok (.iload_n 3, 1) := by decide +kernel
theorem dX12_entry_85 : decode cX12_entry 85 = .ok (.tableswitch 75 1 5 #[35, 43, 51, 59, 67], 35) := by decide +kernel
theorem dX12_entry_120 : decode cX12_entry 120 = .ok (.aload_n 0, 1) := by decide +kernel
theorem dX12_entry_121 : decode cX12_entry 121 = .ok (.getfield 7, 3) := by decide +kernel
theorem dX12_entry_124 : decode cX12_entry 124 = .ok (.iload 5, 2) := by decide +kernel
theorem dX12_entry_126 : decode cX12_entry 126 = .ok (.iaload, 1) := by decide +kernel
theorem dX12_entry_127 : decode cX12_entry 127 = .ok (.ireturn, 1) := by decide +kernel
theorem dX12_entry_128 : decode cX12_entry 128 = .ok (.aload_n 0, 1) := by decide +kernel
theorem dX12_entry_129 : decode cX12_entry 129 = .ok (.getfield 13, 3) := by decide +kernel
theorem dX12_entry_132 : decode cX12_entry 132 = .ok (.iload 5, 2) := by decide +kernel
theorem dX12_entry_134 : decode cX12_entry 134 = .ok (.iaload, 1) := by decide +kernel
theorem dX12_entry_135 : decode cX12_entry 135 = .ok (.ireturn, 1) := by decide +kernel
theorem dX12_entry_136 : decode cX12_entry 136 = .ok (.aload_n 0, 1) := by decide +kernel
theorem dX12_entry_137 : decode cX12_entry 137 = .ok (.getfield 16, 3) := by decide +kernel
theorem dX12_entry_140 : decode cX12_entry 140 = .ok (.iload 5, 2) := by decide +kernel
theorem dX12_entry_142 : decode cX12_entry 142 = .ok (.iaload, 1) := by decide +kernel
theorem dX12_entry_143 : decode cX12_entry 143 = .ok (.ireturn, 1) := by decide +kernel
theorem dX12_entry_144 : decode cX12_entry 144 = .ok (.aload_n 0, 1) := by decide +kernel
theorem dX12_entry_145 : decode cX12_entry 145 = .ok (.getfield 19, 3) := by decide +kernel
theorem dX12_entry_148 : decode cX12_entry 148 = .ok (.iload 5, 2) := by decide +kernel
theorem dX12_entry_150 : decode cX12_entry 150 = .ok (.iaload, 1) := by decide +kernel
theorem dX12_entry_151 : decode cX12_entry 151 = .ok (.ireturn, 1) := by decide +kernel
theorem dX12_entry_152 : decode cX12_entry 152 = .ok (.aload_n 0, 1) := by decide +kernel
theorem dX12_entry_153 : decode cX12_entry 153 = .ok (.getfield 22, 3) := by decide +kernel
theorem dX12_entry_156 : decode cX12_entry 156 = .ok (.iload 5, 2) := by decide +kernel
theorem dX12_entry_158 : decode cX12_entry 158 = .ok (.iaload, 1) := by decide +kernel
theorem dX12_entry_159 : decode cX12_entry 159 = .ok (.ireturn, 1) := by decide +kernel
theorem dX12_entry_160 : decode cX12_entry 160 = .ok (.iconst (-1), 1) := by decide +kernel
theorem dX12_entry_161 : decode cX12_entry 161 = .ok (.ireturn, 1) := by decide +kernel
theorem dX12_word_0 : decode cX12_word 0 = .ok (.aload_n 0, 1) := by decide +kernel
theorem dX12_word_1 : decode cX12_word 1 = .ok (.iconst 0, 1) := by decide +kernel
theorem dX12_word_2 : decode cX12_word 2 = .ok (.putfield 229, 3) := by decide +kernel
theorem dX12_word_5 : decode cX12_word 5 = .ok (.iload_n 1, 1) := by decide +kernel
theorem dX12_word_6 : decode cX12_word 6 = .ok (.aload_n 0, 1) := by decide +kernel
theorem dX12_word_7 : decode cX12_word 7 = .ok (.getfield 223, 3) := by decide +kernel
theorem dX12_word_10 : decode cX12_word 10 = .ok (.invokestatic 374, 3) := by decide +kernel
theorem dX12_word_13 : decode cX12_word 13 = .ok (.ifCond .eq 12, 3) := by decide +kernel
theorem dX12_word_16 : decode cX12_word 16 = .ok (.iload_n 2, 1) := by decide +kernel
theorem dX12_word_17 : decode cX12_word 17 = .ok (.bipush 8, 2) := by decide +kernel
theorem dX12_word_19 : decode cX12_word 19 = .ok (.invokestatic 374, 3) := by decide +kernel
theorem dX12_word_22 : decode cX12_word 22 = .ok (.ifCond .ne 5, 3) := by decide +kernel
theorem dX12_word_25 : decode cX12_word 25 = .ok (.iconst 0, 1) := by decide +kernel
theorem dX12_word_26 : decode cX12_word 26 = .ok (.ireturn, 1) := by decide +kernel
theorem dX12_word_27 : decode cX12_word 27 = .ok (.aload_n 0, 1) := by decide +kernel
theorem dX12_word_28 : decode cX12_word 28 = .ok (.iload_n 1, 1) := by decide +kernel
theorem dX12_word_29 : decode cX12_word 29 = .ok (.aload_n 0, 1) := by decide +kernel
theorem dX12_word_30 : decode cX12_word 30 = .ok (.iload_n 1, 1) := by decide +kernel
theorem dX12_word_31 : decode cX12_word 31 = .ok (.invokevirtual 392, 3) := by decide +kernel
theorem dX12_word_34 : decode cX12_word 34 = .ok (.invokevirtual 256, 3) := by decide +kernel
theorem dX12_word_37 : decode cX12_word 37 = .ok (.aload_n 0, 1) := by decide +kernel
theorem dX12_word_38 : decode cX12_word 38 = .ok (.getfield 214, 3) := by decide +kernel
theorem dX12_word_41 : decode cX12_word 41 = .ok (.iload_n 2, 1) := by decide +kernel
theorem dX12_word_42 : decode cX12_word 42 = .ok (.iaload, 1) := by decide +kernel
theorem dX12_word_43 : decode cX12_word 43 = .ok (.ireturn, 1) := by decide +kernel
theorem dX12_client_0 : decode cX12_client 0 = .ok (.aload_n 0, 1) := by decide +kernel
theorem dX12_client_1 : decode cX12_client 1 = .ok (.iconst 0, 1) := by decide +kernel
theorem dX12_client_2 : decode cX12_client 2 = .ok (.putfield 229, 3) := by decide +kernel
theorem dX12_client_5 : decode cX12_client 5 = .ok (.iload_n 1, 1) := by decide +kernel
theorem dX12_client_6 : decode cX12_client 6 = .ok (.iconst 4, 1) := by decide +kernel
theorem dX12_client_7 : decode cX12_client 7 = .ok (.invokestatic 374, 3) := by decide +kernel
theorem dX12_client_10 : decode cX12_client 10 = .ok (.ifCond .ne 5, 3) := by decide +kernel
theorem dX12_client_13 : decode cX12_client 13 = .ok (.iconst (-1), 1) := by decide +kernel
theorem dX12_client_14 : decode cX12_client 14 = .ok (.ireturn, 1) := by decide +kernel
theorem dX12_client_15 : decode cX12_client 15 = .ok (.iload_n 2, 1) := by decide +kernel
theorem dX12_client_16 : decode cX12_client 16 = .ok (.iconst 2, 1) := by decide +kernel
theorem dX12_client_17 : decode cX12_client 17 = .ok (.if_icmp .ge 32, 3) := by decide +kernel
theorem dX12_client_20 : decode cX12_client 20 = .ok (.iload_n 2, 1) := by decide +kernel
theorem dX12_client_21 : decode cX12_client 21 = .ok (.ifCond .ne 12, 3) := by decide +kernel
theorem dX12_client_24 : decode cX12_client 24 = .ok (.aload_n 0, 1) := by decide +kernel
theorem dX12_client_25 : decode cX12_client 25 = .ok (.getfield 160, 3) := by decide +kernel
theorem dX12_client_28 : decode cX12_client 28 = .ok (.iload_n 1, 1) := by decide +kernel
theorem dX12_client_29 : decode cX12_client 29 = .ok (.iaload, 1) := by decide +kernel
theorem dX12_client_30 : decode cX12_client 30 = .ok (.goto 18, 3) := by decide +kernel
theorem dX12_client_33 : decode cX12_client 33 = .ok (.iload_n 2, 1) := by decide +kernel
theorem dX12_client_34 : decode cX12_client 34 = .ok (.iconst 1, 1) := by decide +kernel
theorem dX12_client_35 : decode cX12_client 35 = .ok (.if_icmp .ne 12, 3) := by decide +kernel
theorem dX12_client_38 : decode cX12_client 38 = .ok (.aload_n 0, 1) := by decide +kernel
theorem dX12_client_39 : decode cX12_client 39 = .ok (.getfield 166, 3) := by decide +kernel
theorem dX12_client_42 : decode cX12_client 42 = .ok (.iload_n 1, 1) := by decide +kernel
theorem dX12_client_43 : decode cX12_client 43 = .ok (.iaload, 1) := by decide +kernel
theorem dX12_client_44 : decode cX12_client 44 = .ok (.goto 4, 3) := by decide +kernel
theorem dX12_client_47 : decode cX12_client 47 = .ok (.iconst (-1), 1) := by decide +kernel
theorem dX12_client_48 : decode cX12_client 48 = .ok (.ireturn, 1) := by decide +kernel
theorem dX12_client_49 : decode cX12_client 49 = .ok (.aload_n 0, 1) := by decide +kernel
theorem dX12_client_50 : decode cX12_client 50 = .ok (.getfield 166, 3) := by decide +kernel
theorem dX12_client_53 : decode cX12_client 53 = .ok (.iload_n 1, 1) := by decide +kernel
theorem dX12_client_54 : decode cX12_client 54 = .ok (.iaload, 1) := by decide +kernel
theorem dX12_client_55 : decode cX12_client 55 = .ok (.iconst 2, 1) := by decide +kernel
theorem dX12_client_56 : decode cX12_client 56 = .ok (.if_icmp .eq 5, 3) := by decide +kernel
theorem dX12_client_59 : decode cX12_client 59 = .ok (.iconst (-1), 1) := by decide +kernel
theorem dX12_client_60 : decode cX12_client 60 = .ok (.ireturn, 1) := by decide +kernel
theorem dX12_client_61 : decode cX12_client 61 = .ok (.iload_n 2, 1) := by decide +kernel
theorem dX12_client_62 : decode cX12_client 62 = .ok (.iconst 2, 1) := by decide +kernel
theorem dX12_client_63 : decode cX12_client 63 = .ok (.if_icmp .ne 12, 3) := by decide +kernel
theorem dX12_client_66 : decode cX12_client 66 = .ok (.aload_n 0, 1) := by decide +kernel
theorem dX12_client_67 : decode cX12_client 67 = .ok (.getfield 169, 3) := by decide +kernel
theorem dX12_client_70 : decode cX12_client 70 = .ok (.iload_n 1, 1) := by decide +kernel
theorem dX12_client_71 : decode cX12_client 71 = .ok (.iaload, 1) := by decide +kernel
theorem dX12_client_72 : decode cX12_client 72 = .ok (.goto 32, 3) := by decide +kernel
theorem dX12_client_75 : decode cX12_client 75 = .ok (.iload_n 2, 1) := by decide +kernel
theorem dX12_client_76 : decode cX12_client 76 = .ok (.iconst 3, 1) := by decide +kernel
theorem dX12_client_77 : decode cX12_client 77 = .ok (.if_icmp .ne 12, 3) := by decide +kernel
theorem dX12_client_80 : decode cX12_client 80 = .ok (.aload_n 0, 1) := by decide +kernel
theorem dX12_client_81 : decode cX12_client 81 = .ok (.getfield 172, 3) := by decide +kernel
theorem dX12_client_84 : decode cX12_client 84 = .ok (.iload_n 1, 1) := by decide +kernel
theorem dX12_client_85 : decode cX12_client 85 = .ok (.iaload, 1) := by decide +kernel
theorem dX12_client_86 : decode cX12_client 86 = .ok (.goto 18, 3) := by decide +kernel
theorem dX12_client_89 : decode cX12_client 89 = .ok (.iload_n 2, 1) := by decide +kernel
theorem dX12_client_90 : decode cX12_client 90 = .ok (.iconst 4, 1) := by decide +kernel
theorem dX12_client_91 : decode cX12_client 91 = .ok (.if_icmp .ne 12, 3) := by decide +kernel
theorem dX12_client_94 : decode cX12_client 94 = .ok (.aload_n 0, 1) := by decide +kernel
theorem dX12_client_95 : decode cX12_client 95 = .ok (.getfield 175, 3) := by decide +kernel
theorem dX12_client_98 : decode cX12_client 98 = .ok (.iload_n 1, 1) := by decide +kernel
theorem dX12_client_99 : decode cX12_client 99 = .ok (.iaload, 1) := by decide +kernel
theorem dX12_client_100 : decode cX12_client 100 = .ok (.goto 4, 3) := by decide +kernel
theorem dX12_client_103 : decode cX12_client 103 = .ok (.iconst (-1), 1) := by decide +kernel
theorem dX12_client_104 : decode cX12_client 104 = .ok (.ireturn, 1) := by decide +kernel
theorem dX12_answer__0 : decode cX12_answer_ 0 = .ok (.aload_n 0, 1) := by decide +kernel
theorem dX12_answer__1 : decode cX12_answer_ 1 = .ok (.iconst 0, 1) := by decide +kernel
theorem dX12_answer__2 : decode cX12_answer_ 2 = .ok (.putfield 229, 3) := by decide +kernel
theorem dX12_answer__5 : decode cX12_answer_ 5 = .ok (.iload_n 1, 1) := by decide +kernel
theorem dX12_answer__6 : decode cX12_answer_ 6 = .ok (.iconst 4, 1) := by decide +kernel
theorem dX12_answer__7 : decode cX12_answer_ 7 = .ok (.invokestatic 374, 3) := by decide +kernel
theorem dX12_answer__10 : decode cX12_answer_ 10 = .ok (.ifCond .eq 12, 3) := by decide +kernel
theorem dX12_answer__13 : decode cX12_answer_ 13 = .ok (.aload_n 0, 1) := by decide +kernel
theorem dX12_answer__14 : decode cX12_answer_ 14 = .ok (.getfield 178, 3) := by decide +kernel
theorem dX12_answer__17 : decode cX12_answer_ 17 = .ok (.iload_n 1, 1) := by decide +kernel
theorem dX12_answer__18 : decode cX12_answer_ 18 = .ok (.iaload, 1) := by decide +kernel
theorem dX12_answer__19 : decode cX12_answer_ 19 = .ok (.goto 4, 3) := by decide +kernel
theorem dX12_answer__22 : decode cX12_answer_ 22 = .ok (.iconst 0, 1) := by decide +kernel
theorem dX12_answer__23 : decode cX12_answer_ 23 = .ok (.ireturn, 1) := by decide +kernel
theorem dX12_about_0 : decode cX12_about 0 = .ok (.aload_n 0, 1) := by decide +kernel
theorem dX12_about_1 : decode cX12_about 1 = .ok (.iconst 0, 1) := by decide +kernel
theorem dX12_about_2 : decode cX12_about 2 = .ok (.putfield 229, 3) := by decide +kernel
theorem dX12_about_5 : decode cX12_about 5 = .ok (.iload_n 1, 1) := by decide +kernel
theorem dX12_about_6 : decode cX12_about 6 = .ok (.tableswitch 85 0 6 #[42, 47, 52, 57, 70, 75, 80], 42) := by decide +kernel
theorem dX12_about_48 : decode cX12_about 48 = .ok (.aload_n 0, 1) := by decide +kernel
theorem dX12_about_49 : decode cX12_about 49 = .ok (.getfield 235, 3) := by decide +kernel
theorem dX12_about_52 : decode cX12_about 52 = .ok (.ireturn, 1) := by decide +kernel
theorem dX12_about_53 : decode cX12_about 53 = .ok (.aload_n 0, 1) := by decide +kernel
theorem dX12_about_54 : decode cX12_about 54 = .ok (.getfield 232, 3) := by decide +kernel
theorem dX12_about_57 : decode cX12_about 57 = .ok (.ireturn, 1) := by decide +kernel
theorem dX12_about_58 : decode cX12_about 58 = .ok (.aload_n 0, 1) := by decide +kernel
theorem dX12_about_59 : decode cX12_about 59 = .ok (.getfield 238, 3) := by decide +kernel
theorem dX12_about_62 : decode cX12_about 62 = .ok (.ireturn, 1) := by decide +kernel
theorem dX12_about_63 : decode cX12_about 63 = .ok (.aload_n 0, 1) := by decide +kernel
theorem dX12_about_64 : decode cX12_about 64 = .ok (.getfield 25, 3) := by decide +kernel
theorem dX12_about_67 : decode cX12_about 67 = .ok (.ifCond .eq 7, 3) := by decide +kernel
theorem dX12_about_70 : decode cX12_about 70 = .ok (.iconst 1, 1) := by decide +kernel
theorem dX12_about_71 : decode cX12_about 71 = .ok (.goto 4, 3) := by decide +kernel
theorem dX12_about_74 : decode cX12_about 74 = .ok (.iconst 0, 1) := by decide +kernel
theorem dX12_about_75 : decode cX12_about 75 = .ok (.ireturn, 1) := by decide +kernel
theorem dX12_about_76 : decode cX12_about 76 = .ok (.aload_n 0, 1) := by decide +kernel
theorem dX12_about_77 : decode cX12_about 77 = .ok (.getfield 29, 3) := by decide +kernel
theorem dX12_about_80 : decode cX12_about 80 = .ok (.ireturn, 1) := by decide +kernel
theorem dX12_about_81 : decode cX12_about 81 = .ok (.aload_n 0, 1) := by decide +kernel
theorem dX12_about_82 : decode cX12_about 82 = .ok (.getfield 245, 3) := by decide +kernel
theorem dX12_about_85 : decode cX12_about 85 = .ok (.ireturn, 1) := by decide +kernel
theorem dX12_about_86 : decode cX12_about 86 = .ok (.aload_n 0, 1) := by decide +kernel
theorem dX12_about_87 : decode cX12_about 87 = .ok (.getfield 334, 3) := by decide +kernel
theorem dX12_about_90 : decode cX12_about 90 = .ok (.ireturn, 1) := by decide +kernel
theorem dX12_about_91 : decode cX12_about 91 = .ok (.iconst (-1), 1) := by decide +kernel
theorem dX12_about_92 : decode cX12_about 92 = .ok (.ireturn, 1) := by decide +kernel
theorem dX12_message_0 : decode cX12_message 0 = .ok (.aload_n 0, 1) := by decide +kernel
theorem dX12_message_1 : decode cX12_message 1 = .ok (.iconst 0, 1) := by decide +kernel
theorem dX12_message_2 : decode cX12_message 2 = .ok (.putfield 229, 3) := by decide +kernel
theorem dX12_message_5 : decode cX12_message 5 = .ok (.iload_n 1, 1) := by decide +kernel
theorem dX12_message_6 : decode cX12_message 6 = .ok (.aload_n 0, 1) := by decide +kernel
theorem dX12_message_7 : decode cX12_message 7 = .ok (.getfield 235, 3) := by decide +kernel
theorem dX12_message_10 : decode cX12_message 10 = .ok (.invokestatic 374, 3) := by decide +kernel
theorem dX12_message_13 : decode cX12_message 13 = .ok (.ifCond .ne 5, 3) := by decide +kernel
theorem dX12_message_16 : decode cX12_message 16 = .ok (.iconst (-1), 1) := by decide +kernel
theorem dX12_message_17 : decode cX12_message 17 = .ok (.ireturn, 1) := by decide +kernel
theorem dX12_message_18 : decode cX12_message 18 = .ok (.aload_n 0, 1) := by decide +kernel
theorem dX12_message_19 : decode cX12_message 19 = .ok (.getfield 33, 3) := by decide +kernel
theorem dX12_message_22 : decode cX12_message 22 = .ok (.iload_n 1, 1) := by decide +kernel
theorem dX12_message_23 : decode cX12_message 23 = .ok (.iaload, 1) := by decide +kernel
theorem dX12_message_24 : decode cX12_message 24 = .ok (.istore_n 3, 1) := by decide +kernel
theorem dX12_message_25 : decode cX12_message 25 = .ok (.iload_n 2, 1) := by decide +kernel
theorem dX12_message_26 : decode cX12_message 26 = .ok (.ifCond .ne 12, 3) := by decide +kernel
theorem dX12_message_29 : decode cX12_message 29 = .ok (.aload_n 0, 1) := by decide +kernel
theorem dX12_message_30 : decode cX12_message 30 = .ok (.getfield 39, 3) := by decide +kernel
theorem dX12_message_33 : decode cX12_message 33 = .ok (.iload_n 3, 1) := by decide +kernel
theorem dX12_message_34 : decode cX12_message 34 = .ok (.iaload, 1) := by decide +kernel
theorem dX12_message_35 : decode cX12_message 35 = .ok (.goto 46, 3) := by decide +kernel
theorem dX12_message_38 : decode cX12_message 38 = .ok (.iload_n 2, 1) := by decide +kernel
theorem dX12_message_39 : decode cX12_message 39 = .ok (.iconst 1, 1) := by decide +kernel
theorem dX12_message_40 : decode cX12_message 40 = .ok (.if_icmp .ne 12, 3) := by decide +kernel
theorem dX12_message_43 : decode cX12_message 43 = .ok (.aload_n 0, 1) := by decide +kernel
theorem dX12_message_44 : decode cX12_message 44 = .ok (.getfield 42, 3) := by decide +kernel
theorem dX12_message_47 : decode cX12_message 47 = .ok (.iload_n 3, 1) := by decide +kernel
theorem dX12_message_48 : decode cX12_message 48 = .ok (.iaload, 1) := by decide +kernel
theorem dX12_message_49 : decode cX12_message 49 = .ok (.goto 32, 3) := by decide +kernel
theorem dX12_message_52 : decode cX12_message 52 = .ok (.iload_n 2, 1) := by decide +kernel
theorem dX12_message_53 : decode cX12_message 53 = .ok (.iconst 2, 1) := by decide +kernel
theorem dX12_message_54 : decode cX12_message 54 = .ok (.if_icmp .ne 12, 3) := by decide +kernel
theorem dX12_message_57 : decode cX12_message 57 = .ok (.aload_n 0, 1) := by decide +kernel
theorem dX12_message_58 : decode cX12_message 58 = .ok (.getfield 45, 3) := by decide +kernel
theorem dX12_message_61 : decode cX12_message 61 = .ok (.iload_n 3, 1) := by decide +kernel
theorem dX12_message_62 : decode cX12_message 62 = .ok (.iaload, 1) := by decide +kernel
theorem dX12_message_63 : decode cX12_message 63 = .ok (.goto 18, 3) := by decide +kernel
theorem dX12_message_66 : decode cX12_message 66 = .ok (.iload_n 2, 1) := by decide +kernel
theorem dX12_message_67 : decode cX12_message 67 = .ok (.iconst 3, 1) := by decide +kernel
theorem dX12_message_68 : decode cX12_message 68 = .ok (.if_icmp .ne 12, 3) := by decide +kernel
theorem dX12_message_71 : decode cX12_message 71 = .ok (.aload_n 0, 1) := by decide +kernel
theorem dX12_message_72 : decode cX12_message 72 = .ok (.getfield 48, 3) := by decide +kernel
theorem dX12_message_75 : decode cX12_message 75 = .ok (.iload_n 3, 1) := by decide +kernel
theorem dX12_message_76 : decode cX12_message 76 = .ok (.iaload, 1) := by decide +kernel
theorem dX12_message_77 : decode cX12_message 77 = .ok (.goto 4, 3) := by decide +kernel
theorem dX12_message_80 : decode cX12_message 80 = .ok (.iconst (-1), 1) := by decide +kernel
theorem dX12_message_81 : decode cX12_message 81 = .ok (.ireturn, 1) := by decide +kernel
theorem dX12_has_0 : decode cX12_has 0 = .ok (.aload_n 0, 1) := by decide +kernel
theorem dX12_has_1 : decode cX12_has 1 = .ok (.getfield 199, 3) := by decide +kernel
theorem dX12_has_4 : decode cX12_has 4 = .ok (.iload_n 2, 1) := by decide +kernel
theorem dX12_has_5 : decode cX12_has 5 = .ok (.iaload, 1) := by decide +kernel
theorem dX12_has_6 : decode cX12_has 6 = .ok (.istore_n 3, 1) := by decide +kernel
theorem dX12_has_7 : decode cX12_has 7 = .ok (.aload_n 0, 1) := by decide +kernel
theorem dX12_has_8 : decode cX12_has 8 = .ok (.getfield 208, 3) := by decide +kernel
theorem dX12_has_11 : decode cX12_has 11 = .ok (.iload_n 2, 1) := by decide +kernel
theorem dX12_has_12 : decode cX12_has 12 = .ok (.iaload, 1) := by decide +kernel
theorem dX12_has_13 : decode cX12_has 13 = .ok (.istore 4, 2) := by decide +kernel
theorem dX12_has_15 : decode cX12_has 15 = .ok (.iload 4, 2) := by decide +kernel
theorem dX12_has_17 : decode cX12_has 17 = .ok (.aload_n 0, 1) := by decide +kernel
theorem dX12_has_18 : decode cX12_has 18 = .ok (.getfield 103, 3) := by decide +kernel
theorem dX12_has_21 : decode cX12_has 21 = .ok (.iload_n 1, 1) := by decide +kernel
theorem dX12_has_22 : decode cX12_has 22 = .ok (.iaload, 1) := by decide +kernel
theorem dX12_has_23 : decode cX12_has 23 = .ok (.if_icmp .gt 21, 3) := by decide +kernel
theorem dX12_has_26 : decode cX12_has 26 = .ok (.aload_n 0, 1) := by decide +kernel
theorem dX12_has_27 : decode cX12_has 27 = .ok (.getfield 115, 3) := by decide +kernel
theorem dX12_has_30 : decode cX12_has 30 = .ok (.bipush 100, 2) := by decide +kernel
theorem dX12_has_32 : decode cX12_has 32 = .ok (.iload_n 1, 1) := by decide +kernel
theorem dX12_has_33 : decode cX12_has 33 = .ok (.imul, 1) := by decide +kernel
theorem dX12_has_34 : decode cX12_has 34 = .ok (.iload 4, 2) := by decide +kernel
theorem dX12_has_36 : decode cX12_has 36 = .ok (.iadd, 1) := by decide +kernel
theorem dX12_has_37 : decode cX12_has 37 = .ok (.iconst 1, 1) := by decide +kernel
theorem dX12_has_38 : decode cX12_has 38 = .ok (.isub, 1) := by decide +kernel
theorem dX12_has_39 : decode cX12_has 39 = .ok (.iaload, 1) := by decide +kernel
theorem dX12_has_40 : decode cX12_has 40 = .ok (.iload_n 3, 1) := by decide +kernel
theorem dX12_has_41 : decode cX12_has 41 = .ok (.if_icmp .eq 5, 3) := by decide +kernel
theorem dX12_has_44 : decode cX12_has 44 = .ok (.iconst 0, 1) := by decide +kernel
theorem dX12_has_45 : decode cX12_has 45 = .ok (.ireturn, 1) := by decide +kernel
theorem dX12_has_46 : decode cX12_has 46 = .ok (.iconst 0, 1) := by decide +kernel
theorem dX12_has_47 : decode cX12_has 47 = .ok (.istore 5, 2) := by decide +kernel
theorem dX12_has_49 : decode cX12_has 49 = .ok (.iload 5, 2) := by decide +kernel
theorem dX12_has_51 : decode cX12_has 51 = .ok (.aload_n 0, 1) := by decide +kernel
theorem dX12_has_52 : decode cX12_has 52 = .ok (.getfield 103, 3) := by decide +kernel
theorem dX12_has_55 : decode cX12_has 55 = .ok (.iload_n 1, 1) := by decide +kernel
theorem dX12_has_56 : decode cX12_has 56 = .ok (.iaload, 1) := by decide +kernel
theorem dX12_has_57 : decode cX12_has 57 = .ok (.if_icmp .ge 64, 3) := by decide +kernel
theorem dX12_has_60 : decode cX12_has 60 = .ok (.aload_n 0, 1) := by decide +kernel
theorem dX12_has_61 : decode cX12_has 61 = .ok (.iload_n 1, 1) := by decide +kernel
theorem dX12_has_62 : decode cX12_has 62 = .ok (.iload 5, 2) := by decide +kernel
theorem dX12_has_64 : decode cX12_has 64 = .ok (.iconst 1, 1) := by decide +kernel
theorem dX12_has_65 : decode cX12_has 65 = .ok (.iadd, 1) := by decide +kernel
theorem dX12_has_66 : decode cX12_has 66 = .ok (.invokevirtual 256, 3) := by decide +kernel
theorem dX12_has_69 : decode cX12_has 69 = .ok (.aload_n 0, 1) := by decide +kernel
theorem dX12_has_70 : decode cX12_has 70 = .ok (.getfield 217, 3) := by decide +kernel
theorem dX12_has_73 : decode cX12_has 73 = .ok (.aload_n 0, 1) := by decide +kernel
theorem dX12_has_74 : decode cX12_has 74 = .ok (.getfield 7, 3) := by decide +kernel
theorem dX12_has_77 : decode cX12_has 77 = .ok (.iload_n 3, 1) := by decide +kernel
theorem dX12_has_78 : decode cX12_has 78 = .ok (.iaload, 1) := by decide +kernel
theorem dX12_has_79 : decode cX12_has 79 = .ok (.iaload, 1) := by decide +kernel
theorem dX12_has_80 : decode cX12_has 80 = .ok (.aload_n 0, 1) := by decide +kernel
theorem dX12_has_81 : decode cX12_has 81 = .ok (.getfield 13, 3) := by decide +kernel
theorem dX12_has_84 : decode cX12_has 84 = .ok (.iload_n 3, 1) := by decide +kernel
theorem dX12_has_85 : decode cX12_has 85 = .ok (.iaload, 1) := by decide +kernel
theorem dX12_has_86 : decode cX12_has 86 = .ok (.if_icmp .ne 29, 3) := by decide +kernel
theorem dX12_has_89 : decode cX12_has 89 = .ok (.aload_n 0, 1) := by decide +kernel
theorem dX12_has_90 : decode cX12_has 90 = .ok (.getfield 220, 3) := by decide +kernel
theorem dX12_has_93 : decode cX12_has 93 = .ok (.aload_n 0, 1) := by decide +kernel
theorem dX12_has_94 : decode cX12_has 94 = .ok (.getfield 7, 3) := by decide +kernel
theorem dX12_has_97 : decode cX12_has 97 = .ok (.iload_n 3, 1) := by decide +kernel
theorem dX12_has_98 : decode cX12_has 98 = .ok (.iaload, 1) := by decide +kernel
theorem dX12_has_99 : decode cX12_has 99 = .ok (.iaload, 1) := by decide +kernel
theorem dX12_has_100 : decode cX12_has 100 = .ok (.aload_n 0, 1) := by decide +kernel
theorem dX12_has_101 : decode cX12_has 101 = .ok (.getfield 211, 3) := by decide +kernel
theorem dX12_has_104 : decode cX12_has 104 = .ok (.iload_n 2, 1) := by decide +kernel
theorem dX12_has_105 : decode cX12_has 105 = .ok (.iaload, 1) := by decide +kernel
theorem dX12_has_106 : decode cX12_has 106 = .ok (.if_icmp .ne 7, 3) := by decide +kernel
theorem dX12_has_109 : decode cX12_has 109 = .ok (.iconst 1, 1) := by decide +kernel
theorem dX12_has_110 : decode cX12_has 110 = .ok (.goto 4, 3) := by decide +kernel
theorem dX12_has_113 : decode cX12_has 113 = .ok (.iconst 0, 1) := by decide +kernel
theorem dX12_has_114 : decode cX12_has 114 = .ok (.ireturn, 1) := by decide +kernel
theorem dX12_has_115 : decode cX12_has 115 = .ok (.iinc 5 1, 3) := by decide +kernel
theorem dX12_has_118 : decode cX12_has 118 = .ok (.goto (-69), 3) := by decide +kernel
theorem dX12_has_121 : decode cX12_has 121 = .ok (.iconst 1, 1) := by decide +kernel
theorem dX12_has_122 : decode cX12_has 122 = .ok (.ireturn, 1) := by decide +kernel
theorem dX12_broken_0 : decode cX12_broken 0 = .ok (.aload_n 0, 1) := by decide +kernel
theorem dX12_broken_1 : decode cX12_broken 1 = .ok (.iconst 0, 1) := by decide +kernel
theorem dX12_broken_2 : decode cX12_broken 2 = .ok (.putfield 229, 3) := by decide +kernel
theorem dX12_broken_5 : decode cX12_broken 5 = .ok (.iconst 0, 1) := by decide +kernel
theorem dX12_broken_6 : decode cX12_broken 6 = .ok (.istore_n 1, 1) := by decide +kernel
theorem dX12_broken_7 : decode cX12_broken 7 = .ok (.iconst 0, 1) := by decide +kernel
theorem dX12_broken_8 : decode cX12_broken 8 = .ok (.istore_n 2, 1) := by decide +kernel
theorem dX12_broken_9 : decode cX12_broken 9 = .ok (.iload_n 2, 1) := by decide +kernel
theorem dX12_broken_10 : decode cX12_broken 10 = .ok (.sipush 200, 3) := by decide +kernel
theorem dX12_broken_13 : decode cX12_broken 13 = .ok (.if_icmp .ge 165, 3) := by decide +kernel
theorem dX12_broken_16 : decode cX12_broken 16 = .ok (.iload_n 2, 1) := by decide +kernel
theorem dX12_broken_17 : decode cX12_broken 17 = .ok (.aload_n 0, 1) := by decide +kernel
theorem dX12_broken_18 : decode cX12_broken 18 = .ok (.getfield 334, 3) := by decide +kernel
theorem dX12_broken_21 : decode cX12_broken 21 = .ok (.if_icmp .ge 157, 3) := by decide +kernel
theorem dX12_broken_24 : decode cX12_broken 24 = .ok (.iconst 1, 1) := by decide +kernel
theorem dX12_broken_25 : decode cX12_broken 25 = .ok (.istore_n 3, 1) := by decide +kernel
theorem dX12_broken_26 : decode cX12_broken 26 = .ok (.iconst 0, 1) := by decide +kernel
theorem dX12_broken_27 : decode cX12_broken 27 = .ok (.istore 4, 2) := by decide +kernel
theorem dX12_broken_29 : decode cX12_broken 29 = .ok (.iload 4, 2) := by decide +kernel
theorem dX12_broken_31 : decode cX12_broken 31 = .ok (.aload_n 0, 1) := by decide +kernel
theorem dX12_broken_32 : decode cX12_broken 32 = .ok (.getfield 223, 3) := by decide +kernel
theorem dX12_broken_35 : decode cX12_broken 35 = .ok (.if_icmp .ge 125, 3) := by decide +kernel
theorem dX12_broken_38 : decode cX12_broken 38 = .ok (.aload_n 0, 1) := by decide +kernel
theorem dX12_broken_39 : decode cX12_broken 39 = .ok (.getfield 202, 3) := by decide +kernel
theorem dX12_broken_42 : decode cX12_broken 42 = .ok (.iload_n 2, 1) := by decide +kernel
theorem dX12_broken_43 : decode cX12_broken 43 = .ok (.iaload, 1) := by decide +kernel
theorem dX12_broken_44 : decode cX12_broken 44 = .ok (.aload_n 0, 1) := by decide +kernel
theorem dX12_broken_45 : decode cX12_broken 45 = .ok (.getfield 88, 3) := by decide +kernel
theorem dX12_broken_48 : decode cX12_broken 48 = .ok (.iload 4, 2) := by decide +kernel
theorem dX12_broken_50 : decode cX12_broken 50 = .ok (.iaload, 1) := by decide +kernel
theorem dX12_broken_51 : decode cX12_broken 51 = .ok (.if_icmp .ne 23, 3) := by decide +kernel
theorem dX12_broken_54 : decode cX12_broken 54 = .ok (.aload_n 0, 1) := by decide +kernel
theorem dX12_broken_55 : decode cX12_broken 55 = .ok (.getfield 205, 3) := by decide +kernel
theorem dX12_broken_58 : decode cX12_broken 58 = .ok (.iload_n 2, 1) := by decide +kernel
theorem dX12_broken_59 : decode cX12_broken 59 = .ok (.iaload, 1) := by decide +kernel
theorem dX12_broken_60 : decode cX12_broken 60 = .ok (.aload_n 0, 1) := by decide +kernel
theorem dX12_broken_61 : decode cX12_broken 61 = .ok (.getfield 91, 3) := by decide +kernel
theorem dX12_broken_64 : decode cX12_broken 64 = .ok (.iload 4, 2) := by decide +kernel
theorem dX12_broken_66 : decode cX12_broken 66 = .ok (.iaload, 1) := by decide +kernel
theorem dX12_broken_67 : decode cX12_broken 67 = .ok (.if_icmp .ne 7, 3) := by decide +kernel
theorem dX12_broken_70 : decode cX12_broken 70 = .ok (.iconst 1, 1) := by decide +kernel
theorem dX12_broken_71 : decode cX12_broken 71 = .ok (.goto 4, 3) := by decide +kernel
theorem dX12_broken_74 : decode cX12_broken 74 = .ok (.iconst 0, 1) := by decide +kernel
theorem dX12_broken_75 : decode cX12_broken 75 = .ok (.istore 5, 2) := by decide +kernel
theorem dX12_broken_77 : decode cX12_broken 77 = .ok (.aload_n 0, 1) := by decide +kernel
theorem dX12_broken_78 : decode cX12_broken 78 = .ok (.iload 4, 2) := by decide +kernel
theorem dX12_broken_80 : decode cX12_broken 80 = .ok (.invokevirtual 248, 3) := by decide +kernel
theorem dX12_broken_83 : decode cX12_broken 83 = .ok (.ifCond .eq 71, 3) := by decide +kernel
theorem dX12_broken_86 : decode cX12_broken 86 = .ok (.aload_n 0, 1) := by decide +kernel
theorem dX12_broken_87 : decode cX12_broken 87 = .ok (.getfield 94, 3) := by decide +kernel
theorem dX12_broken_90 : decode cX12_broken 90 = .ok (.iload 4, 2) := by decide +kernel
theorem dX12_broken_92 : decode cX12_broken 92 = .ok (.iaload, 1) := by decide +kernel
theorem dX12_broken_93 : decode cX12_broken 93 = .ok (.iconst 2, 1) := by decide +kernel
theorem dX12_broken_94 : decode cX12_broken 94 = .ok (.if_icmp .eq 60, 3) := by decide +kernel
theorem dX12_broken_97 : decode cX12_broken 97 = .ok (.iload 5, 2) := by decide +kernel
theorem dX12_broken_99 : decode cX12_broken 99 = .ok (.ifCond .ne 35, 3) := by decide +kernel
theorem dX12_broken_102 : decode cX12_broken 102 = .ok (.aload_n 0, 1) := by decide +kernel
theorem dX12_broken_103 : decode cX12_broken 103 = .ok (.getfield 202, 3) := by decide +kernel
theorem dX12_broken_106 : decode cX12_broken 106 = .ok (.iload_n 2, 1) := by decide +kernel
theorem dX12_broken_107 : decode cX12_broken 107 = .ok (.iaload, 1) := by decide +kernel
theorem dX12_broken_108 : decode cX12_broken 108 = .ok (.aload_n 0, 1) := by decide +kernel
theorem dX12_broken_109 : decode cX12_broken 109 = .ok (.getfield 205, 3) := by decide +kernel
theorem dX12_broken_112 : decode cX12_broken 112 = .ok (.iload_n 2, 1) := by decide +kernel
theorem dX12_broken_113 : decode cX12_broken 113 = .ok (.iaload, 1) := by decide +kernel
theorem dX12_broken_114 : decode cX12_broken 114 = .ok (.aload_n 0, 1) := by decide +kernel
theorem dX12_broken_115 : decode cX12_broken 115 = .ok (.getfield 88, 3) := by decide +kernel
theorem dX12_broken_118 : decode cX12_broken 118 = .ok (.iload 4, 2) := by decide +kernel
theorem dX12_broken_120 : decode cX12_broken 120 = .ok (.iaload, 1) := by decide +kernel
theorem dX12_broken_121 : decode cX12_broken 121 = .ok (.aload_n 0, 1) := by decide +kernel
theorem dX12_broken_122 : decode cX12_broken 122 = .ok (.getfield 91, 3) := by decide +kernel
theorem dX12_broken_125 : decode cX12_broken 125 = .ok (.iload 4, 2) := by decide +kernel
theorem dX12_broken_127 : decode cX12_broken 127 = .ok (.iaload, 1) := by decide +kernel
theorem dX12_broken_128 : decode cX12_broken 128 = .ok (.invokestatic 321, 3) := by decide +kernel
theorem dX12_broken_131 : decode cX12_broken 131 = .ok (.ifCond .eq 23, 3) := by decide +kernel
theorem dX12_broken_134 : decode cX12_broken 134 = .ok (.iload_n 3, 1) := by decide +kernel
theorem dX12_broken_135 : decode cX12_broken 135 = .ok (.ifCond .eq 17, 3) := by decide +kernel
theorem dX12_broken_138 : decode cX12_broken 138 = .ok (.aload_n 0, 1) := by decide +kernel
theorem dX12_broken_139 : decode cX12_broken 139 = .ok (.iload 4, 2) := by decide +kernel
theorem dX12_broken_141 : decode cX12_broken 141 = .ok (.iload_n 2, 1) := by decide +kernel
theorem dX12_broken_142 : decode cX12_broken 142 = .ok (.invokevirtual 395, 3) := by decide +kernel
theorem dX12_broken_145 : decode cX12_broken 145 = .ok (.ifCond .eq 7, 3) := by decide +kernel
theorem dX12_broken_148 : decode cX12_broken 148 = .ok (.iconst 1, 1) := by decide +kernel
theorem dX12_broken_149 : decode cX12_broken 149 = .ok (.goto 4, 3) := by decide +kernel
theorem dX12_broken_152 : decode cX12_broken 152 = .ok (.iconst 0, 1) := by decide +kernel
theorem dX12_broken_153 : decode cX12_broken 153 = .ok (.istore_n 3, 1) := by decide +kernel
theorem dX12_broken_154 : decode cX12_broken 154 = .ok (.iinc 4 1, 3) := by decide +kernel
theorem dX12_broken_157 : decode cX12_broken 157 = .ok (.goto (-128), 3) := by decide +kernel
theorem dX12_broken_160 : decode cX12_broken 160 = .ok (.iload_n 1, 1) := by decide +kernel
theorem dX12_broken_161 : decode cX12_broken 161 = .ok (.iload_n 3, 1) := by decide +kernel
theorem dX12_broken_162 : decode cX12_broken 162 = .ok (.ifCond .eq 7, 3) := by decide +kernel
theorem dX12_broken_165 : decode cX12_broken 165 = .ok (.iconst 0, 1) := by decide +kernel
theorem dX12_broken_166 : decode cX12_broken 166 = .ok (.goto 4, 3) := by decide +kernel
theorem dX12_broken_169 : decode cX12_broken 169 = .ok (.iconst 1, 1) := by decide +kernel
theorem dX12_broken_170 : decode cX12_broken 170 = .ok (.iadd, 1) := by decide +kernel
theorem dX12_broken_171 : decode cX12_broken 171 = .ok (.istore_n 1, 1) := by decide +kernel
theorem dX12_broken_172 : decode cX12_broken 172 = .ok (.iinc 2 1, 3) := by decide +kernel
theorem dX12_broken_175 : decode cX12_broken 175 = .ok (.goto (-166), 3) := by decide +kernel
theorem dX12_broken_178 : decode cX12_broken 178 = .ok (.iload_n 1, 1) := by decide +kernel
theorem dX12_broken_179 : decode cX12_broken 179 = .ok (.ireturn, 1) := by decide +kernel
end
section
theorem dL_cell_0 : decode cL_cell 0 = .ok (.iload_n 1, 1) := by decide +kernel
theorem dL_cell_1 : decode cL_cell 1 = .ok (.aload_n 0, 1) := by decide +kernel
theorem dL_cell_2 : decode cL_cell 2 = .ok (.arraylength, 1) := by decide +kernel
theorem dL_cell_3 : decode cL_cell 3 = .ok (.if_icmp .ge 9, 3) := by decide +kernel
theorem dL_cell_6 : decode cL_cell 6 = .ok (.aload_n 0, 1) := by decide +kernel
theorem dL_cell_7 : decode cL_cell 7 = .ok (.iload_n 1, 1) := by decide +kernel
theorem dL_cell_8 : decode cL_cell 8 = .ok (.iaload, 1) := by decide +kernel
theorem dL_cell_9 : decode cL_cell 9 = .ok (.goto 4, 3) := by decide +kernel
theorem dL_cell_12 : decode cL_cell 12 = .ok (.iconst 0, 1) := by decide +kernel
theorem dL_cell_13 : decode cL_cell 13 = .ok (.ireturn, 1) := by decide +kernel
theorem dL_request_0 : decode cL_request 0 = .ok (.aload 5, 2) := by decide +kernel
theorem dL_request_2 : decode cL_request 2 = .ok (.iconst 0, 1) := by decide +kernel
theorem dL_request_3 : decode cL_request 3 = .ok (.aload_n 0, 1) := by decide +kernel
theorem dL_request_4 : decode cL_request 4 = .ok (.iload_n 1, 1) := by decide +kernel
theorem dL_request_5 : decode cL_request 5 = .ok (.iload_n 2, 1) := by decide +kernel
theorem dL_request_6 : decode cL_request 6 = .ok (.iload_n 3, 1) := by decide +kernel
theorem dL_request_7 : decode cL_request 7 = .ok (.iload 4, 2) := by decide +kernel
theorem dL_request_9 : decode cL_request 9 = .ok (.invokevirtual 7, 3) := by decide +kernel
theorem dL_request_12 : decode cL_request 12 = .ok (.i2l, 1) := by decide +kernel
theorem dL_request_13 : decode cL_request 13 = .ok (.lastore, 1) := by decide +kernel
theorem dL_request_14 : decode cL_request 14 = .ok (.goto 15, 3) := by decide +kernel
theorem dL_request_17 : decode cL_request 17 = .ok (.astore 6, 2) := by decide +kernel
theorem dL_request_19 : decode cL_request 19 = .ok (.iconst 1, 1) := by decide +kernel
theorem dL_request_20 : decode cL_request 20 = .ok (.ireturn, 1) := by decide +kernel
theorem dL_request_21 : decode cL_request 21 = .ok (.astore 6, 2) := by decide +kernel
theorem dL_request_23 : decode cL_request 23 = .ok (.iconst 2, 1) := by decide +kernel
theorem dL_request_24 : decode cL_request 24 = .ok (.ireturn, 1) := by decide +kernel
theorem dL_request_25 : decode cL_request 25 = .ok (.astore 6, 2) := by decide +kernel
theorem dL_request_27 : decode cL_request 27 = .ok (.iconst 3, 1) := by decide +kernel
theorem dL_request_28 : decode cL_request 28 = .ok (.ireturn, 1) := by decide +kernel
theorem dL_request_29 : decode cL_request 29 = .ok (.iconst 0, 1) := by decide +kernel
theorem dL_request_30 : decode cL_request 30 = .ok (.ireturn, 1) := by decide +kernel
theorem dL_again_0 : decode cL_again 0 = .ok (.aload_n 0, 1) := by decide +kernel
theorem dL_again_1 : decode cL_again 1 = .ok (.iload_n 1, 1) := by decide +kernel
theorem dL_again_2 : decode cL_again 2 = .ok (.invokevirtual 19, 3) := by decide +kernel
theorem dL_again_5 : decode cL_again 5 = .ok (.goto 9, 3) := by decide +kernel
theorem dL_again_8 : decode cL_again 8 = .ok (.astore_n 2, 1) := by decide +kernel
theorem dL_again_9 : decode cL_again 9 = .ok (.iconst 1, 1) := by decide +kernel
theorem dL_again_10 : decode cL_again 10 = .ok (.ireturn, 1) := by decide +kernel
theorem dL_again_11 : decode cL_again 11 = .ok (.astore_n 2, 1) := by decide +kernel
theorem dL_again_12 : decode cL_again 12 = .ok (.iconst 2, 1) := by decide +kernel
theorem dL_again_13 : decode cL_again 13 = .ok (.ireturn, 1) := by decide +kernel
theorem dL_again_14 : decode cL_again 14 = .ok (.iconst 0, 1) := by decide +kernel
theorem dL_again_15 : decode cL_again 15 = .ok (.ireturn, 1) := by decide +kernel
theorem dL_deliver_0 : decode cL_deliver 0 = .ok (.aload_n 0, 1) := by decide +kernel
theorem dL_deliver_1 : decode cL_deliver 1 = .ok (.iload_n 1, 1) := by decide +kernel
theorem dL_deliver_2 : decode cL_deliver 2 = .ok (.invokevirtual 23, 3) := by decide +kernel
theorem dL_deliver_5 : decode cL_deliver 5 = .ok (.goto 6, 3) := by decide +kernel
theorem dL_deliver_8 : decode cL_deliver 8 = .ok (.astore_n 2, 1) := by decide +kernel
theorem dL_deliver_9 : decode cL_deliver 9 = .ok (.iconst 1, 1) := by decide +kernel
theorem dL_deliver_10 : decode cL_deliver 10 = .ok (.ireturn, 1) := by decide +kernel
theorem dL_deliver_11 : decode cL_deliver 11 = .ok (.iconst 0, 1) := by decide +kernel
theorem dL_deliver_12 : decode cL_deliver 12 = .ok (.ireturn, 1) := by decide +kernel
theorem dL_lose_0 : decode cL_lose 0 = .ok (.aload_n 0, 1) := by decide +kernel
theorem dL_lose_1 : decode cL_lose 1 = .ok (.iload_n 1, 1) := by decide +kernel
theorem dL_lose_2 : decode cL_lose 2 = .ok (.invokevirtual 26, 3) := by decide +kernel
theorem dL_lose_5 : decode cL_lose 5 = .ok (.goto 6, 3) := by decide +kernel
theorem dL_lose_8 : decode cL_lose 8 = .ok (.astore_n 2, 1) := by decide +kernel
theorem dL_lose_9 : decode cL_lose 9 = .ok (.iconst 1, 1) := by decide +kernel
theorem dL_lose_10 : decode cL_lose 10 = .ok (.ireturn, 1) := by decide +kernel
theorem dL_lose_11 : decode cL_lose 11 = .ok (.iconst 0, 1) := by decide +kernel
theorem dL_lose_12 : decode cL_lose 12 = .ok (.ireturn, 1) := by decide +kernel
theorem dL_flow_0 : decode cL_flow 0 = .ok (.aload_n 2, 1) := by decide +kernel
theorem dL_flow_1 : decode cL_flow 1 = .ok (.iconst 0, 1) := by decide +kernel
theorem dL_flow_2 : decode cL_flow 2 = .ok (.aload_n 0, 1) := by decide +kernel
theorem dL_flow_3 : decode cL_flow 3 = .ok (.iload_n 1, 1) := by decide +kernel
theorem dL_flow_4 : decode cL_flow 4 = .ok (.invokevirtual 29, 3) := by decide +kernel
theorem dL_flow_7 : decode cL_flow 7 = .ok (.i2l, 1) := by decide +kernel
theorem dL_flow_8 : decode cL_flow 8 = .ok (.lastore, 1) := by decide +kernel
theorem dL_flow_9 : decode cL_flow 9 = .ok (.goto 6, 3) := by decide +kernel
theorem dL_flow_12 : decode cL_flow 12 = .ok (.astore_n 3, 1) := by decide +kernel
theorem dL_flow_13 : decode cL_flow 13 = .ok (.iconst 1, 1) := by decide +kernel
theorem dL_flow_14 : decode cL_flow 14 = .ok (.ireturn, 1) := by decide +kernel
theorem dL_flow_15 : decode cL_flow 15 = .ok (.iconst 0, 1) := by decide +kernel
theorem dL_flow_16 : decode cL_flow 16 = .ok (.ireturn, 1) := by decide +kernel
theorem dL_down_0 : decode cL_down 0 = .ok (.aload_n 0, 1) := by decide +kernel
theorem dL_down_1 : decode cL_down 1 = .ok (.iload_n 1, 1) := by decide +kernel
theorem dL_down_2 : decode cL_down 2 = .ok (.invokevirtual 33, 3) := by decide +kernel
theorem dL_down_5 : decode cL_down 5 = .ok (.goto 9, 3) := by decide +kernel
theorem dL_down_8 : decode cL_down 8 = .ok (.astore_n 2, 1) := by decide +kernel
theorem dL_down_9 : decode cL_down 9 = .ok (.iconst 1, 1) := by decide +kernel
theorem dL_down_10 : decode cL_down 10 = .ok (.ireturn, 1) := by decide +kernel
theorem dL_down_11 : decode cL_down 11 = .ok (.astore_n 2, 1) := by decide +kernel
theorem dL_down_12 : decode cL_down 12 = .ok (.iconst 2, 1) := by decide +kernel
theorem dL_down_13 : decode cL_down 13 = .ok (.ireturn, 1) := by decide +kernel
theorem dL_down_14 : decode cL_down 14 = .ok (.iconst 0, 1) := by decide +kernel
theorem dL_down_15 : decode cL_down 15 = .ok (.ireturn, 1) := by decide +kernel
theorem dL_up_0 : decode cL_up 0 = .ok (.aload_n 0, 1) := by decide +kernel
theorem dL_up_1 : decode cL_up 1 = .ok (.iload_n 1, 1) := by decide +kernel
theorem dL_up_2 : decode cL_up 2 = .ok (.invokevirtual 36, 3) := by decide +kernel
theorem dL_up_5 : decode cL_up 5 = .ok (.goto 9, 3) := by decide +kernel
theorem dL_up_8 : decode cL_up 8 = .ok (.astore_n 2, 1) := by decide +kernel
theorem dL_up_9 : decode cL_up 9 = .ok (.iconst 1, 1) := by decide +kernel
theorem dL_up_10 : decode cL_up 10 = .ok (.ireturn, 1) := by decide +kernel
theorem dL_up_11 : decode cL_up 11 = .ok (.astore_n 2, 1) := by decide +kernel
theorem dL_up_12 : decode cL_up 12 = .ok (.iconst 2, 1) := by decide +kernel
theorem dL_up_13 : decode cL_up 13 = .ok (.ireturn, 1) := by decide +kernel
theorem dL_up_14 : decode cL_up 14 = .ok (.iconst 0, 1) := by decide +kernel
theorem dL_up_15 : decode cL_up 15 = .ok (.ireturn, 1) := by decide +kernel
theorem dL_suspect_0 : decode cL_suspect 0 = .ok (.aload_n 0, 1) := by decide +kernel
theorem dL_suspect_1 : decode cL_suspect 1 = .ok (.iload_n 1, 1) := by decide +kernel
theorem dL_suspect_2 : decode cL_suspect 2 = .ok (.invokevirtual 39, 3) := by decide +kernel
theorem dL_suspect_5 : decode cL_suspect 5 = .ok (.goto 9, 3) := by decide +kernel
theorem dL_suspect_8 : decode cL_suspect 8 = .ok (.astore_n 2, 1) := by decide +kernel
theorem dL_suspect_9 : decode cL_suspect 9 = .ok (.iconst 1, 1) := by decide +kernel
theorem dL_suspect_10 : decode cL_suspect 10 = .ok (.ireturn, 1) := by decide +kernel
theorem dL_suspect_11 : decode cL_suspect 11 = .ok (.astore_n 2, 1) := by decide +kernel
theorem dL_suspect_12 : decode cL_suspect 12 = .ok (.iconst 2, 1) := by decide +kernel
theorem dL_suspect_13 : decode cL_suspect 13 = .ok (.ireturn, 1) := by decide +kernel
theorem dL_suspect_14 : decode cL_suspect 14 = .ok (.iconst 0, 1) := by decide +kernel
theorem dL_suspect_15 : decode cL_suspect 15 = .ok (.ireturn, 1) := by decide +kernel
theorem dL_nudge_0 : decode cL_nudge 0 = .ok (.aload_n 2, 1) := by decide +kernel
theorem dL_nudge_1 : decode cL_nudge 1 = .ok (.iconst 0, 1) := by decide +kernel
theorem dL_nudge_2 : decode cL_nudge 2 = .ok (.aload_n 0, 1) := by decide +kernel
theorem dL_nudge_3 : decode cL_nudge 3 = .ok (.iload_n 1, 1) := by decide +kernel
theorem dL_nudge_4 : decode cL_nudge 4 = .ok (.invokevirtual 42, 3) := by decide +kernel
theorem dL_nudge_7 : decode cL_nudge 7 = .ok (.i2l, 1) := by decide +kernel
theorem dL_nudge_8 : decode cL_nudge 8 = .ok (.lastore, 1) := by decide +kernel
theorem dL_nudge_9 : decode cL_nudge 9 = .ok (.goto 9, 3) := by decide +kernel
theorem dL_nudge_12 : decode cL_nudge 12 = .ok (.astore_n 3, 1) := by decide +kernel
theorem dL_nudge_13 : decode cL_nudge 13 = .ok (.iconst 1, 1) := by decide +kernel
theorem dL_nudge_14 : decode cL_nudge 14 = .ok (.ireturn, 1) := by decide +kernel
theorem dL_nudge_15 : decode cL_nudge 15 = .ok (.astore_n 3, 1) := by decide +kernel
theorem dL_nudge_16 : decode cL_nudge 16 = .ok (.iconst 2, 1) := by decide +kernel
theorem dL_nudge_17 : decode cL_nudge 17 = .ok (.ireturn, 1) := by decide +kernel
theorem dL_nudge_18 : decode cL_nudge 18 = .ok (.iconst 0, 1) := by decide +kernel
theorem dL_nudge_19 : decode cL_nudge 19 = .ok (.ireturn, 1) := by decide +kernel
theorem dL_sync_0 : decode cL_sync 0 = .ok (.aload_n 0, 1) := by decide +kernel
theorem dL_sync_1 : decode cL_sync 1 = .ok (.iload_n 1, 1) := by decide +kernel
theorem dL_sync_2 : decode cL_sync 2 = .ok (.invokevirtual 45, 3) := by decide +kernel
theorem dL_sync_5 : decode cL_sync 5 = .ok (.goto 9, 3) := by decide +kernel
theorem dL_sync_8 : decode cL_sync 8 = .ok (.astore_n 2, 1) := by decide +kernel
theorem dL_sync_9 : decode cL_sync 9 = .ok (.iconst 1, 1) := by decide +kernel
theorem dL_sync_10 : decode cL_sync 10 = .ok (.ireturn, 1) := by decide +kernel
theorem dL_sync_11 : decode cL_sync 11 = .ok (.astore_n 2, 1) := by decide +kernel
theorem dL_sync_12 : decode cL_sync 12 = .ok (.iconst 2, 1) := by decide +kernel
theorem dL_sync_13 : decode cL_sync 13 = .ok (.ireturn, 1) := by decide +kernel
theorem dL_sync_14 : decode cL_sync 14 = .ok (.iconst 0, 1) := by decide +kernel
theorem dL_sync_15 : decode cL_sync 15 = .ok (.ireturn, 1) := by decide +kernel
theorem dL_law_0 : decode cL_law 0 = .ok (.new 8, 3) := by decide +kernel
theorem dL_law_3 : decode cL_law 3 = .ok (.dup, 1) := by decide +kernel
theorem dL_law_4 : decode cL_law 4 = .ok (.aload_n 0, 1) := by decide +kernel
theorem dL_law_5 : decode cL_law 5 = .ok (.iconst 0, 1) := by decide +kernel
theorem dL_law_6 : decode cL_law 6 = .ok (.invokestatic 48, 3) := by decide +kernel
theorem dL_law_9 : decode cL_law 9 = .ok (.invokespecial 54, 3) := by decide +kernel
theorem dL_law_12 : decode cL_law 12 = .ok (.astore_n 1, 1) := by decide +kernel
theorem dL_law_13 : decode cL_law 13 = .ok (.new 56, 3) := by decide +kernel
theorem dL_law_16 : decode cL_law 16 = .ok (.dup, 1) := by decide +kernel
theorem dL_law_17 : decode cL_law 17 = .ok (.aload_n 0, 1) := by decide +kernel
theorem dL_law_18 : decode cL_law 18 = .ok (.iconst 0, 1) := by decide +kernel
theorem dL_law_19 : decode cL_law 19 = .ok (.invokestatic 48, 3) := by decide +kernel
theorem dL_law_22 : decode cL_law 22 = .ok (.invokespecial 58, 3) := by decide +kernel
theorem dL_law_25 : decode cL_law 25 = .ok (.astore_n 2, 1) := by decide +kernel
theorem dL_law_26 : decode cL_law 26 = .ok (.iconst 1, 1) := by decide +kernel
theorem dL_law_27 : decode cL_law 27 = .ok (.newarray .long, 2) := by decide +kernel
theorem dL_law_29 : decode cL_law 29 = .ok (.astore_n 3, 1) := by decide +kernel
theorem dL_law_30 : decode cL_law 30 = .ok (.iconst 1, 1) := by decide +kernel
theorem dL_law_31 : decode cL_law 31 = .ok (.istore 4, 2) := by decide +kernel
theorem dL_law_33 : decode cL_law 33 = .ok (.iload 4, 2) := by decide +kernel
theorem dL_law_35 : decode cL_law 35 = .ok (.aload_n 0, 1) := by decide +kernel
theorem dL_law_36 : decode cL_law 36 = .ok (.arraylength, 1) := by decide +kernel
theorem dL_law_37 : decode cL_law 37 = .ok (.iconst 5, 1) := by decide +kernel
theorem dL_law_38 : decode cL_law 38 = .ok (.isub, 1) := by decide +kernel
theorem dL_law_39 : decode cL_law 39 = .ok (.if_icmp .gt 853, 3) := by decide +kernel
theorem dL_law_42 : decode cL_law 42 = .ok (.aload_n 0, 1) := by decide +kernel
theorem dL_law_43 : decode cL_law 43 = .ok (.iload 4, 2) := by decide +kernel
theorem dL_law_45 : decode cL_law 45 = .ok (.iaload, 1) := by decide +kernel
theorem dL_law_46 : decode cL_law 46 = .ok (.bipush 31, 2) := by decide +kernel
theorem dL_law_48 : decode cL_law 48 = .ok (.iand, 1) := by decide +kernel
theorem dL_law_49 : decode cL_law 49 = .ok (.tableswitch 837 0 19 #[95, 187, 223, 259, 295, 351, 387, 423, 459, 515, 551, 564, 577, 614, 663, 700, 737, 762, 787, 824], 95) := by decide +kernel
theorem dL_law_144 : decode cL_law 144 = .ok (.aload_n 1, 1) := by decide +kernel
theorem dL_law_145 : decode cL_law 145 = .ok (.aload_n 0, 1) := by decide +kernel
theorem dL_law_146 : decode cL_law 146 = .ok (.iload 4, 2) := by decide +kernel
theorem dL_law_148 : decode cL_law 148 = .ok (.iconst 1, 1) := by decide +kernel
theorem dL_law_149 : decode cL_law 149 = .ok (.iadd, 1) := by decide +kernel
theorem dL_law_150 : decode cL_law 150 = .ok (.iaload, 1) := by decide +kernel
theorem dL_law_151 : decode cL_law 151 = .ok (.aload_n 0, 1) := by decide +kernel
theorem dL_law_152 : decode cL_law 152 = .ok (.iload 4, 2) := by decide +kernel
theorem dL_law_154 : decode cL_law 154 = .ok (.iconst 2, 1) := by decide +kernel
theorem dL_law_155 : decode cL_law 155 = .ok (.iadd, 1) := by decide +kernel
theorem dL_law_156 : decode cL_law 156 = .ok (.iaload, 1) := by decide +kernel
theorem dL_law_157 : decode cL_law 157 = .ok (.aload_n 0, 1) := by decide +kernel
theorem dL_law_158 : decode cL_law 158 = .ok (.iload 4, 2) := by decide +kernel
theorem dL_law_160 : decode cL_law 160 = .ok (.iconst 3, 1) := by decide +kernel
theorem dL_law_161 : decode cL_law 161 = .ok (.iadd, 1) := by decide +kernel
theorem dL_law_162 : decode cL_law 162 = .ok (.iaload, 1) := by decide +kernel
theorem dL_law_163 : decode cL_law 163 = .ok (.aload_n 0, 1) := by decide +kernel
theorem dL_law_164 : decode cL_law 164 = .ok (.iload 4, 2) := by decide +kernel
theorem dL_law_166 : decode cL_law 166 = .ok (.iconst 4, 1) := by decide +kernel
theorem dL_law_167 : decode cL_law 167 = .ok (.iadd, 1) := by decide +kernel
theorem dL_law_168 : decode cL_law 168 = .ok (.iaload, 1) := by decide +kernel
theorem dL_law_169 : decode cL_law 169 = .ok (.aload_n 3, 1) := by decide +kernel
theorem dL_law_170 : decode cL_law 170 = .ok (.invokestatic 59, 3) := by decide +kernel
theorem dL_law_173 : decode cL_law 173 = .ok (.istore 5, 2) := by decide +kernel
theorem dL_law_175 : decode cL_law 175 = .ok (.aload_n 2, 1) := by decide +kernel
theorem dL_law_176 : decode cL_law 176 = .ok (.aload_n 0, 1) := by decide +kernel
theorem dL_law_177 : decode cL_law 177 = .ok (.iload 4, 2) := by decide +kernel
theorem dL_law_179 : decode cL_law 179 = .ok (.iconst 1, 1) := by decide +kernel
theorem dL_law_180 : decode cL_law 180 = .ok (.iadd, 1) := by decide +kernel
theorem dL_law_181 : decode cL_law 181 = .ok (.iaload, 1) := by decide +kernel
theorem dL_law_182 : decode cL_law 182 = .ok (.aload_n 0, 1) := by decide +kernel
theorem dL_law_183 : decode cL_law 183 = .ok (.iload 4, 2) := by decide +kernel
theorem dL_law_185 : decode cL_law 185 = .ok (.iconst 2, 1) := by decide +kernel
theorem dL_law_186 : decode cL_law 186 = .ok (.iadd, 1) := by decide +kernel
theorem dL_law_187 : decode cL_law 187 = .ok (.iaload, 1) := by decide +kernel
theorem dL_law_188 : decode cL_law 188 = .ok (.aload_n 0, 1) := by decide +kernel
theorem dL_law_189 : decode cL_law 189 = .ok (.iload 4, 2) := by decide +kernel
theorem dL_law_191 : decode cL_law 191 = .ok (.iconst 3, 1) := by decide +kernel
theorem dL_law_192 : decode cL_law 192 = .ok (.iadd, 1) := by decide +kernel
theorem dL_law_193 : decode cL_law 193 = .ok (.iaload, 1) := by decide +kernel
theorem dL_law_194 : decode cL_law 194 = .ok (.aload_n 0, 1) := by decide +kernel
theorem dL_law_195 : decode cL_law 195 = .ok (.iload 4, 2) := by decide +kernel
theorem dL_law_197 : decode cL_law 197 = .ok (.iconst 4, 1) := by decide +kernel
theorem dL_law_198 : decode cL_law 198 = .ok (.iadd, 1) := by decide +kernel
theorem dL_law_199 : decode cL_law 199 = .ok (.iaload, 1) := by decide +kernel
theorem dL_law_200 : decode cL_law 200 = .ok (.invokevirtual 62, 3) := by decide +kernel
theorem dL_law_203 : decode cL_law 203 = .ok (.istore 6, 2) := by decide +kernel
theorem dL_law_205 : decode cL_law 205 = .ok (.aload_n 2, 1) := by decide +kernel
theorem dL_law_206 : decode cL_law 206 = .ok (.invokevirtual 63, 3) := by decide +kernel
theorem dL_law_209 : decode cL_law 209 = .ok (.iload 5, 2) := by decide +kernel
theorem dL_law_211 : decode cL_law 211 = .ok (.if_icmp .eq 5, 3) := by decide +kernel
theorem dL_law_214 : decode cL_law 214 = .ok (.iconst 0, 1) := by decide +kernel
theorem dL_law_215 : decode cL_law 215 = .ok (.ireturn, 1) := by decide +kernel
theorem dL_law_216 : decode cL_law 216 = .ok (.iload 5, 2) := by decide +kernel
theorem dL_law_218 : decode cL_law 218 = .ok (.ifCond .ne 15, 3) := by decide +kernel
theorem dL_law_221 : decode cL_law 221 = .ok (.aload_n 3, 1) := by decide +kernel
theorem dL_law_222 : decode cL_law 222 = .ok (.iconst 0, 1) := by decide +kernel
theorem dL_law_223 : decode cL_law 223 = .ok (.laload, 1) := by decide +kernel
theorem dL_law_224 : decode cL_law 224 = .ok (.iload 6, 2) := by decide +kernel
theorem dL_law_226 : decode cL_law 226 = .ok (.i2l, 1) := by decide +kernel
theorem dL_law_227 : decode cL_law 227 = .ok (.lcmp, 1) := by decide +kernel
theorem dL_law_228 : decode cL_law 228 = .ok (.ifCond .eq 5, 3) := by decide +kernel
theorem dL_law_231 : decode cL_law 231 = .ok (.iconst 0, 1) := by decide +kernel
theorem dL_law_232 : decode cL_law 232 = .ok (.ireturn, 1) := by decide +kernel
theorem dL_law_233 : decode cL_law 233 = .ok (.goto 653, 3) := by decide +kernel
theorem dL_law_236 : decode cL_law 236 = .ok (.aload_n 1, 1) := by decide +kernel
theorem dL_law_237 : decode cL_law 237 = .ok (.aload_n 0, 1) := by decide +kernel
theorem dL_law_238 : decode cL_law 238 = .ok (.iload 4, 2) := by decide +kernel
theorem dL_law_240 : decode cL_law 240 = .ok (.iconst 1, 1) := by decide +kernel
theorem dL_law_241 : decode cL_law 241 = .ok (.iadd, 1) := by decide +kernel
theorem dL_law_242 : decode cL_law 242 = .ok (.iaload, 1) := by decide +kernel
theorem dL_law_243 : decode cL_law 243 = .ok (.invokestatic 67, 3) := by decide +kernel
theorem dL_law_246 : decode cL_law 246 = .ok (.istore 5, 2) := by decide +kernel
theorem dL_law_248 : decode cL_law 248 = .ok (.aload_n 2, 1) := by decide +kernel
theorem dL_law_249 : decode cL_law 249 = .ok (.aload_n 0, 1) := by decide +kernel
theorem dL_law_250 : decode cL_law 250 = .ok (.iload 4, 2) := by decide +kernel
theorem dL_law_252 : decode cL_law 252 = .ok (.iconst 1, 1) := by decide +kernel
theorem dL_law_253 : decode cL_law 253 = .ok (.iadd, 1) := by decide +kernel
theorem dL_law_254 : decode cL_law 254 = .ok (.iaload, 1) := by decide +kernel
theorem dL_law_255 : decode cL_law 255 = .ok (.invokevirtual 70, 3) := by decide +kernel
theorem dL_law_258 : decode cL_law 258 = .ok (.aload_n 2, 1) := by decide +kernel
theorem dL_law_259 : decode cL_law 259 = .ok (.invokevirtual 63, 3) := by decide +kernel
theorem dL_law_262 : decode cL_law 262 = .ok (.iload 5, 2) := by decide +kernel
theorem dL_law_264 : decode cL_law 264 = .ok (.if_icmp .eq 5, 3) := by decide +kernel
theorem dL_law_267 : decode cL_law 267 = .ok (.iconst 0, 1) := by decide +kernel
theorem dL_law_268 : decode cL_law 268 = .ok (.ireturn, 1) := by decide +kernel
theorem dL_law_269 : decode cL_law 269 = .ok (.goto 617, 3) := by decide +kernel
theorem dL_law_272 : decode cL_law 272 = .ok (.aload_n 1, 1) := by decide +kernel
theorem dL_law_273 : decode cL_law 273 = .ok (.aload_n 0, 1) := by decide +kernel
theorem dL_law_274 : decode cL_law 274 = .ok (.iload 4, 2) := by decide +kernel
theorem dL_law_276 : decode cL_law 276 = .ok (.iconst 1, 1) := by decide +kernel
theorem dL_law_277 : decode cL_law 277 = .ok (.iadd, 1) := by decide +kernel
theorem dL_law_278 : decode cL_law 278 = .ok (.iaload, 1) := by decide +kernel
theorem dL_law_279 : decode cL_law 279 = .ok (.invokestatic 71, 3) := by decide +kernel
theorem dL_law_282 : decode cL_law 282 = .ok (.istore 5, 2) := by decide +kernel
theorem dL_law_284 : decode cL_law 284 = .ok (.aload_n 2, 1) := by decide +kernel
theorem dL_law_285 : decode cL_law 285 = .ok (.aload_n 0, 1) := by decide +kernel
theorem dL_law_286 : decode cL_law 286 = .ok (.iload 4, 2) := by decide +kernel
theorem dL_law_288 : decode cL_law 288 = .ok (.iconst 1, 1) := by decide +kernel
theorem dL_law_289 : decode cL_law 289 = .ok (.iadd, 1) := by decide +kernel
theorem dL_law_290 : decode cL_law 290 = .ok (.iaload, 1) := by decide +kernel
theorem dL_law_291 : decode cL_law 291 = .ok (.invokevirtual 73, 3) := by decide +kernel
theorem dL_law_294 : decode cL_law 294 = .ok (.aload_n 2, 1) := by decide +kernel
theorem dL_law_295 : decode cL_law 295 = .ok (.invokevirtual 63, 3) := by decide +kernel
theorem dL_law_298 : decode cL_law 298 = .ok (.iload 5, 2) := by decide +kernel
theorem dL_law_300 : decode cL_law 300 = .ok (.if_icmp .eq 5, 3) := by decide +kernel
theorem dL_law_303 : decode cL_law 303 = .ok (.iconst 0, 1) := by decide +kernel
theorem dL_law_304 : decode cL_law 304 = .ok (.ireturn, 1) := by decide +kernel
theorem dL_law_305 : decode cL_law 305 = .ok (.goto 581, 3) := by decide +kernel
theorem dL_law_308 : decode cL_law 308 = .ok (.aload_n 1, 1) := by decide +kernel
theorem dL_law_309 : decode cL_law 309 = .ok (.aload_n 0, 1) := by decide +kernel
theorem dL_law_310 : decode cL_law 310 = .ok (.iload 4, 2) := by decide +kernel
theorem dL_law_312 : decode cL_law 312 = .ok (.iconst 1, 1) := by decide +kernel
theorem dL_law_313 : decode cL_law 313 = .ok (.iadd, 1) := by decide +kernel
theorem dL_law_314 : decode cL_law 314 = .ok (.iaload, 1) := by decide +kernel
theorem dL_law_315 : decode cL_law 315 = .ok (.invokestatic 74, 3) := by decide +kernel
theorem dL_law_318 : decode cL_law 318 = .ok (.istore 5, 2) := by decide +kernel
theorem dL_law_320 : decode cL_law 320 = .ok (.aload_n 2, 1) := by decide +kernel
theorem dL_law_321 : decode cL_law 321 = .ok (.aload_n 0, 1) := by decide +kernel
theorem dL_law_322 : decode cL_law 322 = .ok (.iload 4, 2) := by decide +kernel
theorem dL_law_324 : decode cL_law 324 = .ok (.iconst 1, 1) := by decide +kernel
theorem dL_law_325 : decode cL_law 325 = .ok (.iadd, 1) := by decide +kernel
theorem dL_law_326 : decode cL_law 326 = .ok (.iaload, 1) := by decide +kernel
theorem dL_law_327 : decode cL_law 327 = .ok (.invokevirtual 76, 3) := by decide +kernel
theorem dL_law_330 : decode cL_law 330 = .ok (.aload_n 2, 1) := by decide +kernel
theorem dL_law_331 : decode cL_law 331 = .ok (.invokevirtual 63, 3) := by decide +kernel
theorem dL_law_334 : decode cL_law 334 = .ok (.iload 5, 2) := by decide +kernel
theorem dL_law_336 : decode cL_law 336 = .ok (.if_icmp .eq 5, 3) := by decide +kernel
theorem dL_law_339 : decode cL_law 339 = .ok (.iconst 0, 1) := by decide +kernel
theorem dL_law_340 : decode cL_law 340 = .ok (.ireturn, 1) := by decide +kernel
theorem dL_law_341 : decode cL_law 341 = .ok (.goto 545, 3) := by decide +kernel
theorem dL_law_344 : decode cL_law 344 = .ok (.aload_n 1, 1) := by decide +kernel
theorem dL_law_345 : decode cL_law 345 = .ok (.aload_n 0, 1) := by decide +kernel
theorem dL_law_346 : decode cL_law 346 = .ok (.iload 4, 2) := by decide +kernel
theorem dL_law_348 : decode cL_law 348 = .ok (.iconst 1, 1) := by decide +kernel
theorem dL_law_349 : decode cL_law 349 = .ok (.iadd, 1) := by decide +kernel
theorem dL_law_350 : decode cL_law 350 = .ok (.iaload, 1) := by decide +kernel
theorem dL_law_351 : decode cL_law 351 = .ok (.aload_n 3, 1) := by decide +kernel
theorem dL_law_352 : decode cL_law 352 = .ok (.invokestatic 77, 3) := by decide +kernel
theorem dL_law_355 : decode cL_law 355 = .ok (.istore 5, 2) := by decide +kernel
theorem dL_law_357 : decode cL_law 357 = .ok (.aload_n 2, 1) := by decide +kernel
theorem dL_law_358 : decode cL_law 358 = .ok (.aload_n 0, 1) := by decide +kernel
theorem dL_law_359 : decode cL_law 359 = .ok (.iload 4, 2) := by decide +kernel
theorem dL_law_361 : decode cL_law 361 = .ok (.iconst 1, 1) := by decide +kernel
theorem dL_law_362 : decode cL_law 362 = .ok (.iadd, 1) := by decide +kernel
theorem dL_law_363 : decode cL_law 363 = .ok (.iaload, 1) := by decide +kernel
theorem dL_law_364 : decode cL_law 364 = .ok (.invokevirtual 80, 3) := by decide +kernel
theorem dL_law_367 : decode cL_law 367 = .ok (.istore 6, 2) := by decide +kernel
theorem dL_law_369 : decode cL_law 369 = .ok (.aload_n 2, 1) := by decide +kernel
theorem dL_law_370 : decode cL_law 370 = .ok (.invokevirtual 63, 3) := by decide +kernel
theorem dL_law_373 : decode cL_law 373 = .ok (.iload 5, 2) := by decide +kernel
theorem dL_law_375 : decode cL_law 375 = .ok (.if_icmp .eq 5, 3) := by decide +kernel
theorem dL_law_378 : decode cL_law 378 = .ok (.iconst 0, 1) := by decide +kernel
theorem dL_law_379 : decode cL_law 379 = .ok (.ireturn, 1) := by decide +kernel
theorem dL_law_380 : decode cL_law 380 = .ok (.iload 5, 2) := by decide +kernel
theorem dL_law_382 : decode cL_law 382 = .ok (.ifCond .ne 15, 3) := by decide +kernel
theorem dL_law_385 : decode cL_law 385 = .ok (.aload_n 3, 1) := by decide +kernel
theorem dL_law_386 : decode cL_law 386 = .ok (.iconst 0, 1) := by decide +kernel
theorem dL_law_387 : decode cL_law 387 = .ok (.laload, 1) := by decide +kernel
theorem dL_law_388 : decode cL_law 388 = .ok (.iload 6, 2) := by decide +kernel
theorem dL_law_390 : decode cL_law 390 = .ok (.i2l, 1) := by decide +kernel
theorem dL_law_391 : decode cL_law 391 = .ok (.lcmp, 1) := by decide +kernel
theorem dL_law_392 : decode cL_law 392 = .ok (.ifCond .eq 5, 3) := by decide +kernel
theorem dL_law_395 : decode cL_law 395 = .ok (.iconst 0, 1) := by decide +kernel
theorem dL_law_396 : decode cL_law 396 = .ok (.ireturn, 1) := by decide +kernel
theorem dL_law_397 : decode cL_law 397 = .ok (.goto 489, 3) := by decide +kernel
theorem dL_law_400 : decode cL_law 400 = .ok (.aload_n 1, 1) := by decide +kernel
theorem dL_law_401 : decode cL_law 401 = .ok (.aload_n 0, 1) := by decide +kernel
theorem dL_law_402 : decode cL_law 402 = .ok (.iload 4, 2) := by decide +kernel
theorem dL_law_404 : decode cL_law 404 = .ok (.iconst 1, 1) := by decide +kernel
theorem dL_law_405 : decode cL_law 405 = .ok (.iadd, 1) := by decide +kernel
theorem dL_law_406 : decode cL_law 406 = .ok (.iaload, 1) := by decide +kernel
theorem dL_law_407 : decode cL_law 407 = .ok (.invokestatic 81, 3) := by decide +kernel
theorem dL_law_410 : decode cL_law 410 = .ok (.istore 5, 2) := by decide +kernel
theorem dL_law_412 : decode cL_law 412 = .ok (.aload_n 2, 1) := by decide +kernel
theorem dL_law_413 : decode cL_law 413 = .ok (.aload_n 0, 1) := by decide +kernel
theorem dL_law_414 : decode cL_law 414 = .ok (.iload 4, 2) := by decide +kernel
theorem dL_law_416 : decode cL_law 416 = .ok (.iconst 1, 1) := by decide +kernel
theorem dL_law_417 : decode cL_law 417 = .ok (.iadd, 1) := by decide +kernel
theorem dL_law_418 : decode cL_law 418 = .ok (.iaload, 1) := by decide +kernel
theorem dL_law_419 : decode cL_law 419 = .ok (.invokevirtual 83, 3) := by decide +kernel
theorem dL_law_422 : decode cL_law 422 = .ok (.aload_n 2, 1) := by decide +kernel
theorem dL_law_423 : decode cL_law 423 = .ok (.invokevirtual 63, 3) := by decide +kernel
theorem dL_law_426 : decode cL_law 426 = .ok (.iload 5, 2) := by decide +kernel
theorem dL_law_428 : decode cL_law 428 = .ok (.if_icmp .eq 5, 3) := by decide +kernel
theorem dL_law_431 : decode cL_law 431 = .ok (.iconst 0, 1) := by decide +kernel
theorem dL_law_432 : decode cL_law 432 = .ok (.ireturn, 1) := by decide +kernel
theorem dL_law_433 : decode cL_law 433 = .ok (.goto 453, 3) := by decide +kernel
theorem dL_law_436 : decode cL_law 436 = .ok (.aload_n 1, 1) := by decide +kernel
theorem dL_law_437 : decode cL_law 437 = .ok (.aload_n 0, 1) := by decide +kernel
theorem dL_law_438 : decode cL_law 438 = .ok (.iload 4, 2) := by decide +kernel
theorem dL_law_440 : decode cL_law 440 = .ok (.iconst 1, 1) := by decide +kernel
theorem dL_law_441 : decode cL_law 441 = .ok (.iadd, 1) := by decide +kernel
theorem dL_law_442 : decode cL_law 442 = .ok (.iaload, 1) := by decide +kernel
theorem dL_law_443 : decode cL_law 443 = .ok (.invokestatic 84, 3) := by decide +kernel
theorem dL_law_446 : decode cL_law 446 = .ok (.istore 5, 2) := by decide +kernel
theorem dL_law_448 : decode cL_law 448 = .ok (.aload_n 2, 1) := by decide +kernel
theorem dL_law_449 : decode cL_law 449 = .ok (.aload_n 0, 1) := by decide +kernel
theorem dL_law_450 : decode cL_law 450 = .ok (.iload 4, 2) := by decide +kernel
theorem dL_law_452 : decode cL_law 452 = .ok (.iconst 1, 1) := by decide +kernel
theorem dL_law_453 : decode cL_law 453 = .ok (.iadd, 1) := by decide +kernel
theorem dL_law_454 : decode cL_law 454 = .ok (.iaload, 1) := by decide +kernel
theorem dL_law_455 : decode cL_law 455 = .ok (.invokevirtual 86, 3) := by decide +kernel
theorem dL_law_458 : decode cL_law 458 = .ok (.aload_n 2, 1) := by decide +kernel
theorem dL_law_459 : decode cL_law 459 = .ok (.invokevirtual 63, 3) := by decide +kernel
theorem dL_law_462 : decode cL_law 462 = .ok (.iload 5, 2) := by decide +kernel
theorem dL_law_464 : decode cL_law 464 = .ok (.if_icmp .eq 5, 3) := by decide +kernel
theorem dL_law_467 : decode cL_law 467 = .ok (.iconst 0, 1) := by decide +kernel
theorem dL_law_468 : decode cL_law 468 = .ok (.ireturn, 1) := by decide +kernel
theorem dL_law_469 : decode cL_law 469 = .ok (.goto 417, 3) := by decide +kernel
theorem dL_law_472 : decode cL_law 472 = .ok (.aload_n 1, 1) := by decide +kernel
theorem dL_law_473 : decode cL_law 473 = .ok (.aload_n 0, 1) := by decide +kernel
theorem dL_law_474 : decode cL_law 474 = .ok (.iload 4, 2) := by decide +kernel
theorem dL_law_476 : decode cL_law 476 = .ok (.iconst 1, 1) := by decide +kernel
theorem dL_law_477 : decode cL_law 477 = .ok (.iadd, 1) := by decide +kernel
theorem dL_law_478 : decode cL_law 478 = .ok (.iaload, 1) := by decide +kernel
theorem dL_law_479 : decode cL_law 479 = .ok (.invokestatic 87, 3) := by decide +kernel
theorem dL_law_482 : decode cL_law 482 = .ok (.istore 5, 2) := by decide +kernel
theorem dL_law_484 : decode cL_law 484 = .ok (.aload_n 2, 1) := by decide +kernel
theorem dL_law_485 : decode cL_law 485 = .ok (.aload_n 0, 1) := by decide +kernel
theorem dL_law_486 : decode cL_law 486 = .ok (.iload 4, 2) := by decide +kernel
theorem dL_law_488 : decode cL_law 488 = .ok (.iconst 1, 1) := by decide +kernel
theorem dL_law_489 : decode cL_law 489 = .ok (.iadd, 1) := by decide +kernel
theorem dL_law_490 : decode cL_law 490 = .ok (.iaload, 1) := by decide +kernel
theorem dL_law_491 : decode cL_law 491 = .ok (.invokevirtual 89, 3) := by decide +kernel
theorem dL_law_494 : decode cL_law 494 = .ok (.aload_n 2, 1) := by decide +kernel
theorem dL_law_495 : decode cL_law 495 = .ok (.invokevirtual 63, 3) := by decide +kernel
theorem dL_law_498 : decode cL_law 498 = .ok (.iload 5, 2) := by decide +kernel
theorem dL_law_500 : decode cL_law 500 = .ok (.if_icmp .eq 5, 3) := by decide +kernel
theorem dL_law_503 : decode cL_law 503 = .ok (.iconst 0, 1) := by decide +kernel
theorem dL_law_504 : decode cL_law 504 = .ok (.ireturn, 1) := by decide +kernel
theorem dL_law_505 : decode cL_law 505 = .ok (.goto 381, 3) := by decide +kernel
theorem dL_law_508 : decode cL_law 508 = .ok (.aload_n 1, 1) := by decide +kernel
theorem dL_law_509 : decode cL_law 509 = .ok (.aload_n 0, 1) := by decide +kernel
theorem dL_law_510 : decode cL_law 510 = .ok (.iload 4, 2) := by decide +kernel
theorem dL_law_512 : decode cL_law 512 = .ok (.iconst 1, 1) := by decide +kernel
theorem dL_law_513 : decode cL_law 513 = .ok (.iadd, 1) := by decide +kernel
theorem dL_law_514 : decode cL_law 514 = .ok (.iaload, 1) := by decide +kernel
theorem dL_law_515 : decode cL_law 515 = .ok (.aload_n 3, 1) := by decide +kernel
theorem dL_law_516 : decode cL_law 516 = .ok (.invokestatic 90, 3) := by decide +kernel
theorem dL_law_519 : decode cL_law 519 = .ok (.istore 5, 2) := by decide +kernel
theorem dL_law_521 : decode cL_law 521 = .ok (.aload_n 2, 1) := by decide +kernel
theorem dL_law_522 : decode cL_law 522 = .ok (.aload_n 0, 1) := by decide +kernel
theorem dL_law_523 : decode cL_law 523 = .ok (.iload 4, 2) := by decide +kernel
theorem dL_law_525 : decode cL_law 525 = .ok (.iconst 1, 1) := by decide +kernel
theorem dL_law_526 : decode cL_law 526 = .ok (.iadd, 1) := by decide +kernel
theorem dL_law_527 : decode cL_law 527 = .ok (.iaload, 1) := by decide +kernel
theorem dL_law_528 : decode cL_law 528 = .ok (.invokevirtual 92, 3) := by decide +kernel
theorem dL_law_531 : decode cL_law 531 = .ok (.istore 6, 2) := by decide +kernel
theorem dL_law_533 : decode cL_law 533 = .ok (.aload_n 2, 1) := by decide +kernel
theorem dL_law_534 : decode cL_law 534 = .ok (.invokevirtual 63, 3) := by decide +kernel
theorem dL_law_537 : decode cL_law 537 = .ok (.iload 5, 2) := by decide +kernel
theorem dL_law_539 : decode cL_law 539 = .ok (.if_icmp .eq 5, 3) := by decide +kernel
theorem dL_law_542 : decode cL_law 542 = .ok (.iconst 0, 1) := by decide +kernel
theorem dL_law_543 : decode cL_law 543 = .ok (.ireturn, 1) := by decide +kernel
theorem dL_law_544 : decode cL_law 544 = .ok (.iload 5, 2) := by decide +kernel
theorem dL_law_546 : decode cL_law 546 = .ok (.ifCond .ne 15, 3) := by decide +kernel
theorem dL_law_549 : decode cL_law 549 = .ok (.aload_n 3, 1) := by decide +kernel
theorem dL_law_550 : decode cL_law 550 = .ok (.iconst 0, 1) := by decide +kernel
theorem dL_law_551 : decode cL_law 551 = .ok (.laload, 1) := by decide +kernel
theorem dL_law_552 : decode cL_law 552 = .ok (.iload 6, 2) := by decide +kernel
theorem dL_law_554 : decode cL_law 554 = .ok (.i2l, 1) := by decide +kernel
theorem dL_law_555 : decode cL_law 555 = .ok (.lcmp, 1) := by decide +kernel
theorem dL_law_556 : decode cL_law 556 = .ok (.ifCond .eq 5, 3) := by decide +kernel
theorem dL_law_559 : decode cL_law 559 = .ok (.iconst 0, 1) := by decide +kernel
theorem dL_law_560 : decode cL_law 560 = .ok (.ireturn, 1) := by decide +kernel
theorem dL_law_561 : decode cL_law 561 = .ok (.goto 325, 3) := by decide +kernel
theorem dL_law_564 : decode cL_law 564 = .ok (.aload_n 1, 1) := by decide +kernel
theorem dL_law_565 : decode cL_law 565 = .ok (.aload_n 0, 1) := by decide +kernel
theorem dL_law_566 : decode cL_law 566 = .ok (.iload 4, 2) := by decide +kernel
theorem dL_law_568 : decode cL_law 568 = .ok (.iconst 1, 1) := by decide +kernel
theorem dL_law_569 : decode cL_law 569 = .ok (.iadd, 1) := by decide +kernel
theorem dL_law_570 : decode cL_law 570 = .ok (.iaload, 1) := by decide +kernel
theorem dL_law_571 : decode cL_law 571 = .ok (.invokestatic 93, 3) := by decide +kernel
theorem dL_law_574 : decode cL_law 574 = .ok (.istore 5, 2) := by decide +kernel
theorem dL_law_576 : decode cL_law 576 = .ok (.aload_n 2, 1) := by decide +kernel
theorem dL_law_577 : decode cL_law 577 = .ok (.aload_n 0, 1) := by decide +kernel
theorem dL_law_578 : decode cL_law 578 = .ok (.iload 4, 2) := by decide +kernel
theorem dL_law_580 : decode cL_law 580 = .ok (.iconst 1, 1) := by decide +kernel
theorem dL_law_581 : decode cL_law 581 = .ok (.iadd, 1) := by decide +kernel
theorem dL_law_582 : decode cL_law 582 = .ok (.iaload, 1) := by decide +kernel
theorem dL_law_583 : decode cL_law 583 = .ok (.invokevirtual 95, 3) := by decide +kernel
theorem dL_law_586 : decode cL_law 586 = .ok (.aload_n 2, 1) := by decide +kernel
theorem dL_law_587 : decode cL_law 587 = .ok (.invokevirtual 63, 3) := by decide +kernel
theorem dL_law_590 : decode cL_law 590 = .ok (.iload 5, 2) := by decide +kernel
theorem dL_law_592 : decode cL_law 592 = .ok (.if_icmp .eq 5, 3) := by decide +kernel
theorem dL_law_595 : decode cL_law 595 = .ok (.iconst 0, 1) := by decide +kernel
theorem dL_law_596 : decode cL_law 596 = .ok (.ireturn, 1) := by decide +kernel
theorem dL_law_597 : decode cL_law 597 = .ok (.goto 289, 3) := by decide +kernel
theorem dL_law_600 : decode cL_law 600 = .ok (.aload_n 1, 1) := by decide +kernel
theorem dL_law_601 : decode cL_law 601 = .ok (.invokevirtual 96, 3) := by decide +kernel
theorem dL_law_604 : decode cL_law 604 = .ok (.aload_n 2, 1) := by decide +kernel
theorem dL_law_605 : decode cL_law 605 = .ok (.invokevirtual 100, 3) := by decide +kernel
theorem dL_law_608 : decode cL_law 608 = .ok (.if_icmp .eq 278, 3) := by decide +kernel
theorem dL_law_611 : decode cL_law 611 = .ok (.iconst 0, 1) := by decide +kernel
theorem dL_law_612 : decode cL_law 612 = .ok (.ireturn, 1) := by decide +kernel
theorem dL_law_613 : decode cL_law 613 = .ok (.aload_n 1, 1) := by decide +kernel
theorem dL_law_614 : decode cL_law 614 = .ok (.invokevirtual 101, 3) := by decide +kernel
theorem dL_law_617 : decode cL_law 617 = .ok (.aload_n 2, 1) := by decide +kernel
theorem dL_law_618 : decode cL_law 618 = .ok (.invokevirtual 104, 3) := by decide +kernel
theorem dL_law_621 : decode cL_law 621 = .ok (.if_icmp .eq 265, 3) := by decide +kernel
theorem dL_law_624 : decode cL_law 624 = .ok (.iconst 0, 1) := by decide +kernel
theorem dL_law_625 : decode cL_law 625 = .ok (.ireturn, 1) := by decide +kernel
theorem dL_law_626 : decode cL_law 626 = .ok (.aload_n 1, 1) := by decide +kernel
theorem dL_law_627 : decode cL_law 627 = .ok (.aload_n 0, 1) := by decide +kernel
theorem dL_law_628 : decode cL_law 628 = .ok (.iload 4, 2) := by decide +kernel
theorem dL_law_630 : decode cL_law 630 = .ok (.iconst 1, 1) := by decide +kernel
theorem dL_law_631 : decode cL_law 631 = .ok (.iadd, 1) := by decide +kernel
theorem dL_law_632 : decode cL_law 632 = .ok (.iaload, 1) := by decide +kernel
theorem dL_law_633 : decode cL_law 633 = .ok (.aload_n 0, 1) := by decide +kernel
theorem dL_law_634 : decode cL_law 634 = .ok (.iload 4, 2) := by decide +kernel
theorem dL_law_636 : decode cL_law 636 = .ok (.iconst 2, 1) := by decide +kernel
theorem dL_law_637 : decode cL_law 637 = .ok (.iadd, 1) := by decide +kernel
theorem dL_law_638 : decode cL_law 638 = .ok (.iaload, 1) := by decide +kernel
theorem dL_law_639 : decode cL_law 639 = .ok (.invokevirtual 105, 3) := by decide +kernel
theorem dL_law_642 : decode cL_law 642 = .ok (.aload_n 2, 1) := by decide +kernel
theorem dL_law_643 : decode cL_law 643 = .ok (.aload_n 0, 1) := by decide +kernel
theorem dL_law_644 : decode cL_law 644 = .ok (.iload 4, 2) := by decide +kernel
theorem dL_law_646 : decode cL_law 646 = .ok (.iconst 1, 1) := by decide +kernel
theorem dL_law_647 : decode cL_law 647 = .ok (.iadd, 1) := by decide +kernel
theorem dL_law_648 : decode cL_law 648 = .ok (.iaload, 1) := by decide +kernel
theorem dL_law_649 : decode cL_law 649 = .ok (.aload_n 0, 1) := by decide +kernel
theorem dL_law_650 : decode cL_law 650 = .ok (.iload 4, 2) := by decide +kernel
theorem dL_law_652 : decode cL_law 652 = .ok (.iconst 2, 1) := by decide +kernel
theorem dL_law_653 : decode cL_law 653 = .ok (.iadd, 1) := by decide +kernel
theorem dL_law_654 : decode cL_law 654 = .ok (.iaload, 1) := by decide +kernel
theorem dL_law_655 : decode cL_law 655 = .ok (.invokevirtual 109, 3) := by decide +kernel
theorem dL_law_658 : decode cL_law 658 = .ok (.if_icmp .eq 228, 3) := by decide +kernel
theorem dL_law_661 : decode cL_law 661 = .ok (.iconst 0, 1) := by decide +kernel
theorem dL_law_662 : decode cL_law 662 = .ok (.ireturn, 1) := by decide +kernel
theorem dL_law_663 : decode cL_law 663 = .ok (.aload_n 1, 1) := by decide +kernel
theorem dL_law_664 : decode cL_law 664 = .ok (.aload_n 0, 1) := by decide +kernel
theorem dL_law_665 : decode cL_law 665 = .ok (.iload 4, 2) := by decide +kernel
theorem dL_law_667 : decode cL_law 667 = .ok (.iconst 1, 1) := by decide +kernel
theorem dL_law_668 : decode cL_law 668 = .ok (.iadd, 1) := by decide +kernel
theorem dL_law_669 : decode cL_law 669 = .ok (.iaload, 1) := by decide +kernel
theorem dL_law_670 : decode cL_law 670 = .ok (.aload_n 0, 1) := by decide +kernel
theorem dL_law_671 : decode cL_law 671 = .ok (.iload 4, 2) := by decide +kernel
theorem dL_law_673 : decode cL_law 673 = .ok (.iconst 2, 1) := by decide +kernel
theorem dL_law_674 : decode cL_law 674 = .ok (.iadd, 1) := by decide +kernel
theorem dL_law_675 : decode cL_law 675 = .ok (.iaload, 1) := by decide +kernel
theorem dL_law_676 : decode cL_law 676 = .ok (.aload_n 0, 1) := by decide +kernel
theorem dL_law_677 : decode cL_law 677 = .ok (.iload 4, 2) := by decide +kernel
theorem dL_law_679 : decode cL_law 679 = .ok (.iconst 3, 1) := by decide +kernel
theorem dL_law_680 : decode cL_law 680 = .ok (.iadd, 1) := by decide +kernel
theorem dL_law_681 : decode cL_law 681 = .ok (.iaload, 1) := by decide +kernel
theorem dL_law_682 : decode cL_law 682 = .ok (.invokevirtual 110, 3) := by decide +kernel
theorem dL_law_685 : decode cL_law 685 = .ok (.aload_n 2, 1) := by decide +kernel
theorem dL_law_686 : decode cL_law 686 = .ok (.aload_n 0, 1) := by decide +kernel
theorem dL_law_687 : decode cL_law 687 = .ok (.iload 4, 2) := by decide +kernel
theorem dL_law_689 : decode cL_law 689 = .ok (.iconst 1, 1) := by decide +kernel
theorem dL_law_690 : decode cL_law 690 = .ok (.iadd, 1) := by decide +kernel
theorem dL_law_691 : decode cL_law 691 = .ok (.iaload, 1) := by decide +kernel
theorem dL_law_692 : decode cL_law 692 = .ok (.aload_n 0, 1) := by decide +kernel
theorem dL_law_693 : decode cL_law 693 = .ok (.iload 4, 2) := by decide +kernel
theorem dL_law_695 : decode cL_law 695 = .ok (.iconst 2, 1) := by decide +kernel
theorem dL_law_696 : decode cL_law 696 = .ok (.iadd, 1) := by decide +kernel
theorem dL_law_697 : decode cL_law 697 = .ok (.iaload, 1) := by decide +kernel
theorem dL_law_698 : decode cL_law 698 = .ok (.aload_n 0, 1) := by decide +kernel
theorem dL_law_699 : decode cL_law 699 = .ok (.iload 4, 2) := by decide +kernel
theorem dL_law_701 : decode cL_law 701 = .ok (.iconst 3, 1) := by decide +kernel
theorem dL_law_702 : decode cL_law 702 = .ok (.iadd, 1) := by decide +kernel
theorem dL_law_703 : decode cL_law 703 = .ok (.iaload, 1) := by decide +kernel
theorem dL_law_704 : decode cL_law 704 = .ok (.invokevirtual 114, 3) := by decide +kernel
theorem dL_law_707 : decode cL_law 707 = .ok (.if_icmp .eq 179, 3) := by decide +kernel
theorem dL_law_710 : decode cL_law 710 = .ok (.iconst 0, 1) := by decide +kernel
theorem dL_law_711 : decode cL_law 711 = .ok (.ireturn, 1) := by decide +kernel
theorem dL_law_712 : decode cL_law 712 = .ok (.aload_n 1, 1) := by decide +kernel
theorem dL_law_713 : decode cL_law 713 = .ok (.aload_n 0, 1) := by decide +kernel
theorem dL_law_714 : decode cL_law 714 = .ok (.iload 4, 2) := by decide +kernel
theorem dL_law_716 : decode cL_law 716 = .ok (.iconst 1, 1) := by decide +kernel
theorem dL_law_717 : decode cL_law 717 = .ok (.iadd, 1) := by decide +kernel
theorem dL_law_718 : decode cL_law 718 = .ok (.iaload, 1) := by decide +kernel
theorem dL_law_719 : decode cL_law 719 = .ok (.aload_n 0, 1) := by decide +kernel
theorem dL_law_720 : decode cL_law 720 = .ok (.iload 4, 2) := by decide +kernel
theorem dL_law_722 : decode cL_law 722 = .ok (.iconst 2, 1) := by decide +kernel
theorem dL_law_723 : decode cL_law 723 = .ok (.iadd, 1) := by decide +kernel
theorem dL_law_724 : decode cL_law 724 = .ok (.iaload, 1) := by decide +kernel
theorem dL_law_725 : decode cL_law 725 = .ok (.invokevirtual 115, 3) := by decide +kernel
theorem dL_law_728 : decode cL_law 728 = .ok (.aload_n 2, 1) := by decide +kernel
theorem dL_law_729 : decode cL_law 729 = .ok (.aload_n 0, 1) := by decide +kernel
theorem dL_law_730 : decode cL_law 730 = .ok (.iload 4, 2) := by decide +kernel
theorem dL_law_732 : decode cL_law 732 = .ok (.iconst 1, 1) := by decide +kernel
theorem dL_law_733 : decode cL_law 733 = .ok (.iadd, 1) := by decide +kernel
theorem dL_law_734 : decode cL_law 734 = .ok (.iaload, 1) := by decide +kernel
theorem dL_law_735 : decode cL_law 735 = .ok (.aload_n 0, 1) := by decide +kernel
theorem dL_law_736 : decode cL_law 736 = .ok (.iload 4, 2) := by decide +kernel
theorem dL_law_738 : decode cL_law 738 = .ok (.iconst 2, 1) := by decide +kernel
theorem dL_law_739 : decode cL_law 739 = .ok (.iadd, 1) := by decide +kernel
theorem dL_law_740 : decode cL_law 740 = .ok (.iaload, 1) := by decide +kernel
theorem dL_law_741 : decode cL_law 741 = .ok (.invokevirtual 118, 3) := by decide +kernel
theorem dL_law_744 : decode cL_law 744 = .ok (.if_icmp .eq 142, 3) := by decide +kernel
theorem dL_law_747 : decode cL_law 747 = .ok (.iconst 0, 1) := by decide +kernel
theorem dL_law_748 : decode cL_law 748 = .ok (.ireturn, 1) := by decide +kernel
theorem dL_law_749 : decode cL_law 749 = .ok (.aload_n 1, 1) := by decide +kernel
theorem dL_law_750 : decode cL_law 750 = .ok (.aload_n 0, 1) := by decide +kernel
theorem dL_law_751 : decode cL_law 751 = .ok (.iload 4, 2) := by decide +kernel
theorem dL_law_753 : decode cL_law 753 = .ok (.iconst 1, 1) := by decide +kernel
theorem dL_law_754 : decode cL_law 754 = .ok (.iadd, 1) := by decide +kernel
theorem dL_law_755 : decode cL_law 755 = .ok (.iaload, 1) := by decide +kernel
theorem dL_law_756 : decode cL_law 756 = .ok (.aload_n 0, 1) := by decide +kernel
theorem dL_law_757 : decode cL_law 757 = .ok (.iload 4, 2) := by decide +kernel
theorem dL_law_759 : decode cL_law 759 = .ok (.iconst 2, 1) := by decide +kernel
theorem dL_law_760 : decode cL_law 760 = .ok (.iadd, 1) := by decide +kernel
theorem dL_law_761 : decode cL_law 761 = .ok (.iaload, 1) := by decide +kernel
theorem dL_law_762 : decode cL_law 762 = .ok (.invokevirtual 119, 3) := by decide +kernel
theorem dL_law_765 : decode cL_law 765 = .ok (.aload_n 2, 1) := by decide +kernel
theorem dL_law_766 : decode cL_law 766 = .ok (.aload_n 0, 1) := by decide +kernel
theorem dL_law_767 : decode cL_law 767 = .ok (.iload 4, 2) := by decide +kernel
theorem dL_law_769 : decode cL_law 769 = .ok (.iconst 1, 1) := by decide +kernel
theorem dL_law_770 : decode cL_law 770 = .ok (.iadd, 1) := by decide +kernel
theorem dL_law_771 : decode cL_law 771 = .ok (.iaload, 1) := by decide +kernel
theorem dL_law_772 : decode cL_law 772 = .ok (.aload_n 0, 1) := by decide +kernel
theorem dL_law_773 : decode cL_law 773 = .ok (.iload 4, 2) := by decide +kernel
theorem dL_law_775 : decode cL_law 775 = .ok (.iconst 2, 1) := by decide +kernel
theorem dL_law_776 : decode cL_law 776 = .ok (.iadd, 1) := by decide +kernel
theorem dL_law_777 : decode cL_law 777 = .ok (.iaload, 1) := by decide +kernel
theorem dL_law_778 : decode cL_law 778 = .ok (.invokevirtual 122, 3) := by decide +kernel
theorem dL_law_781 : decode cL_law 781 = .ok (.if_icmp .eq 105, 3) := by decide +kernel
theorem dL_law_784 : decode cL_law 784 = .ok (.iconst 0, 1) := by decide +kernel
theorem dL_law_785 : decode cL_law 785 = .ok (.ireturn, 1) := by decide +kernel
theorem dL_law_786 : decode cL_law 786 = .ok (.aload_n 1, 1) := by decide +kernel
theorem dL_law_787 : decode cL_law 787 = .ok (.aload_n 0, 1) := by decide +kernel
theorem dL_law_788 : decode cL_law 788 = .ok (.iload 4, 2) := by decide +kernel
theorem dL_law_790 : decode cL_law 790 = .ok (.iconst 1, 1) := by decide +kernel
theorem dL_law_791 : decode cL_law 791 = .ok (.iadd, 1) := by decide +kernel
theorem dL_law_792 : decode cL_law 792 = .ok (.iaload, 1) := by decide +kernel
theorem dL_law_793 : decode cL_law 793 = .ok (.invokevirtual 123, 3) := by decide +kernel
theorem dL_law_796 : decode cL_law 796 = .ok (.aload_n 2, 1) := by decide +kernel
theorem dL_law_797 : decode cL_law 797 = .ok (.aload_n 0, 1) := by decide +kernel
theorem dL_law_798 : decode cL_law 798 = .ok (.iload 4, 2) := by decide +kernel
theorem dL_law_800 : decode cL_law 800 = .ok (.iconst 1, 1) := by decide +kernel
theorem dL_law_801 : decode cL_law 801 = .ok (.iadd, 1) := by decide +kernel
theorem dL_law_802 : decode cL_law 802 = .ok (.iaload, 1) := by decide +kernel
theorem dL_law_803 : decode cL_law 803 = .ok (.invokevirtual 126, 3) := by decide +kernel
theorem dL_law_806 : decode cL_law 806 = .ok (.if_icmp .eq 80, 3) := by decide +kernel
theorem dL_law_809 : decode cL_law 809 = .ok (.iconst 0, 1) := by decide +kernel
theorem dL_law_810 : decode cL_law 810 = .ok (.ireturn, 1) := by decide +kernel
theorem dL_law_811 : decode cL_law 811 = .ok (.aload_n 1, 1) := by decide +kernel
theorem dL_law_812 : decode cL_law 812 = .ok (.aload_n 0, 1) := by decide +kernel
theorem dL_law_813 : decode cL_law 813 = .ok (.iload 4, 2) := by decide +kernel
theorem dL_law_815 : decode cL_law 815 = .ok (.iconst 1, 1) := by decide +kernel
theorem dL_law_816 : decode cL_law 816 = .ok (.iadd, 1) := by decide +kernel
theorem dL_law_817 : decode cL_law 817 = .ok (.iaload, 1) := by decide +kernel
theorem dL_law_818 : decode cL_law 818 = .ok (.invokevirtual 127, 3) := by decide +kernel
theorem dL_law_821 : decode cL_law 821 = .ok (.aload_n 2, 1) := by decide +kernel
theorem dL_law_822 : decode cL_law 822 = .ok (.aload_n 0, 1) := by decide +kernel
theorem dL_law_823 : decode cL_law 823 = .ok (.iload 4, 2) := by decide +kernel
theorem dL_law_825 : decode cL_law 825 = .ok (.iconst 1, 1) := by decide +kernel
theorem dL_law_826 : decode cL_law 826 = .ok (.iadd, 1) := by decide +kernel
theorem dL_law_827 : decode cL_law 827 = .ok (.iaload, 1) := by decide +kernel
theorem dL_law_828 : decode cL_law 828 = .ok (.invokevirtual 130, 3) := by decide +kernel
theorem dL_law_831 : decode cL_law 831 = .ok (.if_icmp .eq 55, 3) := by decide +kernel
theorem dL_law_834 : decode cL_law 834 = .ok (.iconst 0, 1) := by decide +kernel
theorem dL_law_835 : decode cL_law 835 = .ok (.ireturn, 1) := by decide +kernel
theorem dL_law_836 : decode cL_law 836 = .ok (.aload_n 1, 1) := by decide +kernel
theorem dL_law_837 : decode cL_law 837 = .ok (.aload_n 0, 1) := by decide +kernel
theorem dL_law_838 : decode cL_law 838 = .ok (.iload 4, 2) := by decide +kernel
theorem dL_law_840 : decode cL_law 840 = .ok (.iconst 1, 1) := by decide +kernel
theorem dL_law_841 : decode cL_law 841 = .ok (.iadd, 1) := by decide +kernel
theorem dL_law_842 : decode cL_law 842 = .ok (.iaload, 1) := by decide +kernel
theorem dL_law_843 : decode cL_law 843 = .ok (.aload_n 0, 1) := by decide +kernel
theorem dL_law_844 : decode cL_law 844 = .ok (.iload 4, 2) := by decide +kernel
theorem dL_law_846 : decode cL_law 846 = .ok (.iconst 2, 1) := by decide +kernel
theorem dL_law_847 : decode cL_law 847 = .ok (.iadd, 1) := by decide +kernel
theorem dL_law_848 : decode cL_law 848 = .ok (.iaload, 1) := by decide +kernel
theorem dL_law_849 : decode cL_law 849 = .ok (.invokevirtual 131, 3) := by decide +kernel
theorem dL_law_852 : decode cL_law 852 = .ok (.aload_n 2, 1) := by decide +kernel
theorem dL_law_853 : decode cL_law 853 = .ok (.aload_n 0, 1) := by decide +kernel
theorem dL_law_854 : decode cL_law 854 = .ok (.iload 4, 2) := by decide +kernel
theorem dL_law_856 : decode cL_law 856 = .ok (.iconst 1, 1) := by decide +kernel
theorem dL_law_857 : decode cL_law 857 = .ok (.iadd, 1) := by decide +kernel
theorem dL_law_858 : decode cL_law 858 = .ok (.iaload, 1) := by decide +kernel
theorem dL_law_859 : decode cL_law 859 = .ok (.aload_n 0, 1) := by decide +kernel
theorem dL_law_860 : decode cL_law 860 = .ok (.iload 4, 2) := by decide +kernel
theorem dL_law_862 : decode cL_law 862 = .ok (.iconst 2, 1) := by decide +kernel
theorem dL_law_863 : decode cL_law 863 = .ok (.iadd, 1) := by decide +kernel
theorem dL_law_864 : decode cL_law 864 = .ok (.iaload, 1) := by decide +kernel
theorem dL_law_865 : decode cL_law 865 = .ok (.invokevirtual 134, 3) := by decide +kernel
theorem dL_law_868 : decode cL_law 868 = .ok (.if_icmp .eq 18, 3) := by decide +kernel
theorem dL_law_871 : decode cL_law 871 = .ok (.iconst 0, 1) := by decide +kernel
theorem dL_law_872 : decode cL_law 872 = .ok (.ireturn, 1) := by decide +kernel
theorem dL_law_873 : decode cL_law 873 = .ok (.aload_n 1, 1) := by decide +kernel
theorem dL_law_874 : decode cL_law 874 = .ok (.invokevirtual 135, 3) := by decide +kernel
theorem dL_law_877 : decode cL_law 877 = .ok (.aload_n 2, 1) := by decide +kernel
theorem dL_law_878 : decode cL_law 878 = .ok (.invokevirtual 138, 3) := by decide +kernel
theorem dL_law_881 : decode cL_law 881 = .ok (.if_icmp .eq 5, 3) := by decide +kernel
theorem dL_law_884 : decode cL_law 884 = .ok (.iconst 0, 1) := by decide +kernel
theorem dL_law_885 : decode cL_law 885 = .ok (.ireturn, 1) := by decide +kernel
theorem dL_law_886 : decode cL_law 886 = .ok (.iinc 4 5, 3) := by decide +kernel
theorem dL_law_889 : decode cL_law 889 = .ok (.goto (-856), 3) := by decide +kernel
theorem dL_law_892 : decode cL_law 892 = .ok (.iconst 1, 1) := by decide +kernel
theorem dL_law_893 : decode cL_law 893 = .ok (.ireturn, 1) := by decide +kernel
end
section
/-! the state by names: kinds, lengths, ints, references of each address; the reference's state; the judgement of one method at one place -/
def gwT : List Cond := lw_tbl.filter goodWord
theorem gw_mem {w : Cond} (i : Nat) (h : lw_tbl[i]? = some w) (hg : goodWord w = true) : w ∈ gwT := List.mem_filter.mpr ⟨List.mem_of_getElem? h, hg⟩
def wsU (y : MethodName) (cc : ByteArray) (nL : Nat) (ret : Option FieldType) : List Cond := .code y cc nL ret :: gwT
theorem gw_good {w : Cond} (h : w ∈ gwT) : (w.onTables && w.keeps) = true ∨ ∃ ty, w = .arrayClass ty := good_of_word (List.mem_filter.mp h).2
theorem gw_in {y : MethodName} {cc : ByteArray} {nL : Nat} {ret : Option FieldType} (h : Cond.code y cc nL ret ∈ gwT) : GoodIn gwT (wsU y cc nL ret) := by
  intro w hw
  rcases List.mem_cons.mp hw with rfl | hw
  · exact ⟨h, gw_good h⟩
  · exact ⟨hw, gw_good hw⟩
def cC : Nat → String := fun ci => match ci with
  | 0 => RX0
  | 1 => RX1
  | 2 => RX2
  | 3 => RX3
  | 4 => RX4
  | 5 => RX5
  | 6 => RX6
  | 7 => RX7
  | 8 => RX8
  | 9 => RX9
  | 10 => RX10
  | 11 => RX11
  | 12 => RX12
  | _ => ""
def cT : Nat → u_T := fun ci => match ci with
  | 0 => TX0
  | 1 => TX1
  | 2 => TX2
  | 3 => TX3
  | 4 => TX4
  | 5 => TX5
  | 6 => TX6
  | 7 => TX7
  | 8 => TX8
  | 9 => TX9
  | 10 => TX10
  | 11 => TX11
  | 12 => TX12
  | _ => TX0
def cN : Nat → Nat := fun ci => match ci with
  | 0 => 8
  | 1 => 6
  | 2 => 13
  | 3 => 3
  | 4 => 2
  | 5 => 12
  | 6 => 15
  | 7 => 6
  | 8 => 7
  | 9 => 2
  | 10 => 5
  | 11 => 10
  | 12 => 79
  | _ => 0
def cY : Nat → Nat → FieldType := fun ci => match ci with
  | 0 => tyX0
  | 1 => tyX1
  | 2 => tyX2
  | 3 => tyX3
  | 4 => tyX4
  | 5 => tyX5
  | 6 => tyX6
  | 7 => tyX7
  | 8 => tyX8
  | 9 => tyX9
  | 10 => tyX10
  | 11 => tyX11
  | 12 => tyX12
  | _ => tyX0
theorem c_at {ci : Nat} (h : ci < 13) : vwCl[ci]? = some (cC ci, cT ci, cN ci) := by
  rcases (show ci = 0 ∨ ci = 1 ∨ ci = 2 ∨ ci = 3 ∨ ci = 4 ∨ ci = 5 ∨ ci = 6 ∨ ci = 7 ∨ ci = 8 ∨ ci = 9 ∨ ci = 10 ∨ ci = 11 ∨ ci = 12 by omega) with rfl | rfl | rfl | rfl | rfl | rfl | rfl | rfl | rfl | rfl | rfl | rfl | rfl <;> rfl
set_option maxRecDepth 20000 in
theorem c_in0 : ∀ w ∈ wsX00, w ∈ gwT := by
  have h : (wsX00.all fun w => decide (w ∈ lw_tbl) && goodWord w) = true := by decide +kernel
  intro w hw
  have h1 := List.all_eq_true.mp h w hw
  simp only [Bool.and_eq_true, decide_eq_true_eq] at h1
  exact List.mem_filter.mpr h1
set_option maxRecDepth 20000 in
theorem c_in1 : ∀ w ∈ wsX10, w ∈ gwT := by
  have h : (wsX10.all fun w => decide (w ∈ lw_tbl) && goodWord w) = true := by decide +kernel
  intro w hw
  have h1 := List.all_eq_true.mp h w hw
  simp only [Bool.and_eq_true, decide_eq_true_eq] at h1
  exact List.mem_filter.mpr h1
set_option maxRecDepth 20000 in
theorem c_in2 : ∀ w ∈ wsX20, w ∈ gwT := by
  have h : (wsX20.all fun w => decide (w ∈ lw_tbl) && goodWord w) = true := by decide +kernel
  intro w hw
  have h1 := List.all_eq_true.mp h w hw
  simp only [Bool.and_eq_true, decide_eq_true_eq] at h1
  exact List.mem_filter.mpr h1
set_option maxRecDepth 20000 in
theorem c_in3 : ∀ w ∈ wsX30, w ∈ gwT := by
  have h : (wsX30.all fun w => decide (w ∈ lw_tbl) && goodWord w) = true := by decide +kernel
  intro w hw
  have h1 := List.all_eq_true.mp h w hw
  simp only [Bool.and_eq_true, decide_eq_true_eq] at h1
  exact List.mem_filter.mpr h1
set_option maxRecDepth 20000 in
theorem c_in4 : ∀ w ∈ wsX40, w ∈ gwT := by
  have h : (wsX40.all fun w => decide (w ∈ lw_tbl) && goodWord w) = true := by decide +kernel
  intro w hw
  have h1 := List.all_eq_true.mp h w hw
  simp only [Bool.and_eq_true, decide_eq_true_eq] at h1
  exact List.mem_filter.mpr h1
set_option maxRecDepth 20000 in
theorem c_in5 : ∀ w ∈ wsX50, w ∈ gwT := by
  have h : (wsX50.all fun w => decide (w ∈ lw_tbl) && goodWord w) = true := by decide +kernel
  intro w hw
  have h1 := List.all_eq_true.mp h w hw
  simp only [Bool.and_eq_true, decide_eq_true_eq] at h1
  exact List.mem_filter.mpr h1
set_option maxRecDepth 20000 in
theorem c_in6 : ∀ w ∈ wsX60, w ∈ gwT := by
  have h : (wsX60.all fun w => decide (w ∈ lw_tbl) && goodWord w) = true := by decide +kernel
  intro w hw
  have h1 := List.all_eq_true.mp h w hw
  simp only [Bool.and_eq_true, decide_eq_true_eq] at h1
  exact List.mem_filter.mpr h1
set_option maxRecDepth 20000 in
theorem c_in7 : ∀ w ∈ wsX70, w ∈ gwT := by
  have h : (wsX70.all fun w => decide (w ∈ lw_tbl) && goodWord w) = true := by decide +kernel
  intro w hw
  have h1 := List.all_eq_true.mp h w hw
  simp only [Bool.and_eq_true, decide_eq_true_eq] at h1
  exact List.mem_filter.mpr h1
set_option maxRecDepth 20000 in
theorem c_in8 : ∀ w ∈ wsX80, w ∈ gwT := by
  have h : (wsX80.all fun w => decide (w ∈ lw_tbl) && goodWord w) = true := by decide +kernel
  intro w hw
  have h1 := List.all_eq_true.mp h w hw
  simp only [Bool.and_eq_true, decide_eq_true_eq] at h1
  exact List.mem_filter.mpr h1
set_option maxRecDepth 20000 in
theorem c_in9 : ∀ w ∈ wsX90, w ∈ gwT := by
  have h : (wsX90.all fun w => decide (w ∈ lw_tbl) && goodWord w) = true := by decide +kernel
  intro w hw
  have h1 := List.all_eq_true.mp h w hw
  simp only [Bool.and_eq_true, decide_eq_true_eq] at h1
  exact List.mem_filter.mpr h1
set_option maxRecDepth 20000 in
theorem c_in10 : ∀ w ∈ wsX100, w ∈ gwT := by
  have h : (wsX100.all fun w => decide (w ∈ lw_tbl) && goodWord w) = true := by decide +kernel
  intro w hw
  have h1 := List.all_eq_true.mp h w hw
  simp only [Bool.and_eq_true, decide_eq_true_eq] at h1
  exact List.mem_filter.mpr h1
set_option maxRecDepth 20000 in
theorem c_in11 : ∀ w ∈ wsX110, w ∈ gwT := by
  have h : (wsX110.all fun w => decide (w ∈ lw_tbl) && goodWord w) = true := by decide +kernel
  intro w hw
  have h1 := List.all_eq_true.mp h w hw
  simp only [Bool.and_eq_true, decide_eq_true_eq] at h1
  exact List.mem_filter.mpr h1
set_option maxRecDepth 20000 in
theorem c_in12 : ∀ w ∈ wsX120, w ∈ gwT := by
  have h : (wsX120.all fun w => decide (w ∈ lw_tbl) && goodWord w) = true := by decide +kernel
  intro w hw
  have h1 := List.all_eq_true.mp h w hw
  simp only [Bool.and_eq_true, decide_eq_true_eq] at h1
  exact List.mem_filter.mpr h1
theorem c_in {ci : Nat} (h : ci < 13) : ∀ w ∈ u_ws (cC ci) (cT ci) (cN ci), w ∈ gwT := by
  rcases (show ci = 0 ∨ ci = 1 ∨ ci = 2 ∨ ci = 3 ∨ ci = 4 ∨ ci = 5 ∨ ci = 6 ∨ ci = 7 ∨ ci = 8 ∨ ci = 9 ∨ ci = 10 ∨ ci = 11 ∨ ci = 12 by omega) with rfl | rfl | rfl | rfl | rfl | rfl | rfl | rfl | rfl | rfl | rfl | rfl | rfl
  · exact c_in0
  · exact c_in1
  · exact c_in2
  · exact c_in3
  · exact c_in4
  · exact c_in5
  · exact c_in6
  · exact c_in7
  · exact c_in8
  · exact c_in9
  · exact c_in10
  · exact c_in11
  · exact c_in12
theorem c_ty {ci : Nat} (h : ci < 13) : ∀ k, k < cN ci → parseFieldDescriptor (cT ci k).2.2.1 = some (cY ci k) := by
  rcases (show ci = 0 ∨ ci = 1 ∨ ci = 2 ∨ ci = 3 ∨ ci = 4 ∨ ci = 5 ∨ ci = 6 ∨ ci = 7 ∨ ci = 8 ∨ ci = 9 ∨ ci = 10 ∨ ci = 11 ∨ ci = 12 by omega) with rfl | rfl | rfl | rfl | rfl | rfl | rfl | rfl | rfl | rfl | rfl | rfl | rfl
  · exact tyX0_ok
  · exact tyX1_ok
  · exact tyX2_ok
  · exact tyX3_ok
  · exact tyX4_ok
  · exact tyX5_ok
  · exact tyX6_ok
  · exact tyX7_ok
  · exact tyX8_ok
  · exact tyX9_ok
  · exact tyX10_ok
  · exact tyX11_ok
  · exact tyX12_ok
theorem c_nm {ci : Nat} (h : ci < 13) : ∀ a, a < cN ci → ∀ b, b < cN ci → a ≠ b → (cT ci a).2.1 ≠ (cT ci b).2.1 := by
  rcases (show ci = 0 ∨ ci = 1 ∨ ci = 2 ∨ ci = 3 ∨ ci = 4 ∨ ci = 5 ∨ ci = 6 ∨ ci = 7 ∨ ci = 8 ∨ ci = 9 ∨ ci = 10 ∨ ci = 11 ∨ ci = 12 by omega) with rfl | rfl | rfl | rfl | rfl | rfl | rfl | rfl | rfl | rfl | rfl | rfl | rfl
  · exact nmX0
  · exact nmX1
  · exact nmX2
  · exact nmX3
  · exact nmX4
  · exact nmX5
  · exact nmX6
  · exact nmX7
  · exact nmX8
  · exact nmX9
  · exact nmX10
  · exact nmX11
  · exact nmX12

abbrev Hp : Type := (Nat → Nat) × (Nat → Nat) × (Nat → Nat → Int32) × (Nat → Nat → Option Nat) × Nat
def oK (σ : Hp) : Nat → Nat := σ.1
def oZ (σ : Hp) : Nat → Nat := σ.2.1
def oI (σ : Hp) : Nat → Nat → Int32 := σ.2.2.1
def oR (σ : Hp) : Nat → Nat → Option Nat := σ.2.2.2.1
def oN (σ : Hp) : Nat := σ.2.2.2.2
def up2 {α : Type} (f : Nat → Nat → α) (a k : Nat) (v : α) : Nat → Nat → α := fun x j => if x = a ∧ j = k then v else f x j
def sI (σ : Hp) (a k : Nat) (v : Int32) : Hp := (oK σ, oZ σ, up2 (oI σ) a k v, oR σ, oN σ)
def sR (σ : Hp) (a k : Nat) (v : Nat) : Hp := (oK σ, oZ σ, oI σ, up2 (oR σ) a k (some v), oN σ)
def sC (σ : Hp) (a0 a sp dp n : Nat) : Hp := (oK σ, oZ σ, va_up (oI σ) a (va_cpy (oI σ a0) (oI σ a) sp dp n), oR σ, oN σ)
def nw (σ : Hp) (kd len : Nat) : Hp := (va_up (oK σ) (oN σ) kd, va_up (oZ σ) (oN σ) len, va_up (oI σ) (oN σ) (fun _ => 0), va_up (oR σ) (oN σ) (fun _ => none), oN σ + 1)
abbrev Mu : Type := (Nat → Int32) × (Nat → Nat → Int32)
def mS (μ : Mu) (k : Nat) (v : Int32) : Mu := (va_up μ.1 k v, μ.2)
def mT (μ : Mu) (k i : Nat) (v : Int32) : Mu := (μ.1, up2 μ.2 k i v)
abbrev Wt : Type := Hp × Mu × Int64
abbrev Gm : Type := Launch × va_G × (Nat → ClassId) × Nat × Heap × (Nat → Nat) × List Nat
def gl (G : Gm) : Launch := G.1
def gD (G : Gm) : va_G := G.2.1
def gC (G : Gm) : Nat → ClassId := G.2.2.1
def gB (G : Gm) : Nat := G.2.2.2.1
def gH (G : Gm) : Heap := G.2.2.2.2.1
def gM (G : Gm) : Nat → Nat := G.2.2.2.2.2.1
def gF (G : Gm) : List Nat := G.2.2.2.2.2.2
def gA (G : Gm) : Nat → Prop := fun q => gB G ≤ q
def isI (t : FieldType) : Bool := match t with
  | .int => true
  | .boolean => true
  | _ => false
def oF (σ : Hp) (a k : Nat) : Value := if isI (cY (oK σ a) k) = true then .int (oI σ a k) else va_rf (oR σ a k)
def oV (σ : Hp) (a j : Nat) : Value := if oK σ a < 15 then .int (oI σ a j) else va_rf (oR σ a j)
def oAt (G : Gm) (σ : Hp) (a : Nat) (H : Heap) : Prop := if oK σ a < 13 then t_OB a ((gD G).1 (oK σ a)) (cN (oK σ a)) ((gD G).2 (oK σ a)) H (oF σ a) else H[a]? = some (arrV (gC G (oK σ a - 13)) (oZ σ a) (oV σ a))
/-- lengths of the reference's rows, by the numbers of their fields -/
def mZ : Nat → Nat := fun j => match j with
  | 4 => 4097 | 5 => 4097 | 6 => 4097 | 7 => 4097 | 8 => 4097
  | 31 => 20000
  | 32 => 7 | 33 => 7 | 34 => 7 | 35 => 7 | 36 => 7 | 37 => 7 | 38 => 7 | 39 => 7 | 40 => 7 | 41 => 7
  | 42 => 700
  | 43 => 7 | 44 => 84 | 45 => 84
  | 46 => 7 | 47 => 7 | 48 => 7 | 49 => 7
  | 50 => 49 | 51 => 49 | 52 => 49 | 53 => 49
  | 54 => 4900 | 55 => 100 | 56 => 100
  | 57 => 4 | 58 => 4 | 59 => 4 | 60 => 4 | 61 => 4 | 62 => 4 | 63 => 4 | 64 => 4
  | 65 => 256 | 66 => 256 | 67 => 256 | 68 => 256 | 69 => 256
  | 76 => 8 | 77 => 4 | 78 => 4
  | _ => 200
def mK (j : Nat) : Nat := if j = 30 ∨ j = 32 then 1 else 0
def mF (G : Gm) (μ : Mu) (k : Nat) : Value := if isI (tyX12 k) = true then .int (μ.1 k) else .ref (gM G k)
def mAt (G : Gm) (μ : Mu) (o : Int64) (j : Nat) (H : Heap) : Prop :=
  if j = 200 then t_OB (gM G 200) ((gD G).1 12) 79 ((gD G).2 12) H (mF G μ) else if j = 201 then H[gM G 201]? = some (arrV (gC G 7) 1 (fun _ => .long o)) else H[gM G j]? = some (arrV (gC G (mK j)) (mZ j) (fun i => .int (μ.2 j i)))
/-- the world: the class's cells by σ, the reference's by μ, the law's row by o; what lay there before stays -/
def Wd (G : Gm) (w : Wt) (H : Heap) : Prop := H.size = oN w.1 ∧ (∀ a, oK w.1 a ≠ 99 → gB G ≤ a ∧ a < oN w.1 ∧ oAt G w.1 a H) ∧ (∀ j ∈ gF G, gB G ≤ gM G j ∧ oK w.1 (gM G j) = 99 ∧ mAt G w.2.1 w.2.2 j H) ∧ (∀ i ∈ gF G, ∀ j ∈ gF G, gM G i = gM G j → i = j) ∧ (∀ a, a < gB G → H[a]? = (gH G)[a]?) ∧ gB G ≤ H.size
def tysG (G : Gm) : List (ClassId × FieldType) := [(gC G 0, .int), (gC G 1, .boolean), (gC G 2, .object RX2), (gC G 3, .object RX4), (gC G 4, .object RX5), (gC G 5, .object RX6), (gC G 6, .object RX9), (gC G 7, .long)]
def nestL : List (String × Nat × MethodName × String) := [("OrderedTable", 21, yX7_init, "OrderedTable"), ("OrderedTable$Air", 17, yX5_init, "OrderedTable"), ("OrderedTable$Message", 9, yX4_init, "OrderedTable"), ("OrderedTable", 44, yX0_init, "OrderedTable"), ("OrderedTable$Replica", 11, yX4_init, "OrderedTable"), ("OrderedTable$Replica", 20, yX3_init, "OrderedTable"), ("OrderedTable$Tally", 25, yX4_init, "OrderedTable")]
def aoL : List String := [RX2, RX4, RX5, RX6, RX9]
def Ks (G : Gm) (U : State) : Prop := va_K (gD G) vwCl (tysG G) U ∧ (∀ q ∈ nestL, va_Nw (.methodLinkNest q.1 q.2.1 q.2.2.1 q.2.2.2) U) ∧ ∀ C ∈ aoL, va_AO C U
theorem Ks.moved {G : Gm} {s U : State} (hW : s.WarmedH U.vm) (h : Ks G s) : Ks G U := ⟨va_K.moved hW.alike h.1, fun q hq => va_Nw.warmM hW (h.2.1 q hq), fun C hC => va_AO.moved hW.alike (h.2.2 C hC)⟩
def Cx (G : Gm) (y : MethodName) (cc : ByteArray) (nL : Nat) (ret : Option FieldType) (p : Program) (s : State) (m : MethodId) (args : Array Value) (meth : Method) (co : Code) : Prop :=
  p.tables.exec = Jvm.exec ∧ co.code = cc ∧ co.maxLocals = nL ∧ s.vm.findClass y.cls = some m.cls ∧ (∀ w ∈ gwT, w.before args s = true) ∧ meth.locks = false ∧ Ks G s ∧ gB G ≤ s.heap.size ∧ meth.sig.returnType = ret ∧ meth.name = y.name
abbrev ZT : Type := Program → Env → State → MethodId → Array Value → List Frame → Method → Code → State → Prop
/-- the judgement: from this place of the method, with these locals and this stack, in this world, the machine comes to an end as Z has it -/
def V (G : Gm) (y : MethodName) (cc : ByteArray) (nL : Nat) (ret : Option FieldType) (R : Room) (Z : ZT) (w : Wt) (c k pc : Nat) (lv : List (Nat × Value)) (st : List Value) : Prop :=
  ∀ (p : Program) (e : Env) (s : State) (m : MethodId) (args : Array Value) (below : List Frame) (meth : Method) (co : Code) (H : Heap) (locs : List Loc) (ls : Array Slot),
    Cx G y cc nL ret p s m args meth co → Wd G w H → va_S (gA G) s.heap H locs → lv_has ls nL lv → W p (gl G) e R s m args below meth co H locs c k (Z p e s m args below meth co) (F0 m pc ls st)
end
section
/-! rows of the judgement: what only moves locals and stack -/
section VROWS
variable {G : Gm} {y : MethodName} {cc : ByteArray} {nL : Nat} {ret : Option FieldType} {R : Room} {Z : ZT} {w : Wt} {c k pc q : Nat} {lv : List (Nat × Value)} {st : List Value}
theorem v_iconst {n : Int} {v : Int32} (hv : Int32.ofInt n = v) (d : decode cc pc = .ok (.iconst n, 1)) (hq : pc + 1 = q) (kk : V G y cc nL ret R Z w c k q lv (.int v :: st)) : V G y cc nL ret R Z w c k pc lv (st) := by
  subst hq; intro p e s m args below meth co H locs ls C hW hS hl; exact lv_iconst C.1 C.2.1 d hv (kk p e s m args below meth co H locs ls C hW hS hl)
theorem v_bipush {n : Int} {v : Int32} (hv : (Int8.ofInt n).toInt32 = v) (d : decode cc pc = .ok (.bipush n, 2)) (hq : pc + 2 = q) (kk : V G y cc nL ret R Z w c k q lv (.int v :: st)) : V G y cc nL ret R Z w c k pc lv (st) := by
  subst hq; intro p e s m args below meth co H locs ls C hW hS hl; exact lv_bipush C.1 C.2.1 d hv (kk p e s m args below meth co H locs ls C hW hS hl)
theorem v_sipush {n : Int} {v : Int32} (hv : (Int16.ofInt n).toInt32 = v) (d : decode cc pc = .ok (.sipush n, 3)) (hq : pc + 3 = q) (kk : V G y cc nL ret R Z w c k q lv (.int v :: st)) : V G y cc nL ret R Z w c k pc lv (st) := by
  subst hq; intro p e s m args below meth co H locs ls C hW hS hl; exact lv_sipush C.1 C.2.1 d hv (kk p e s m args below meth co H locs ls C hW hS hl)
theorem v_iload_n {i : Fin 4} {x : Int32} (t : Nat) (ht : lv[t]? = some ((i : Nat), .int x)) (d : decode cc pc = .ok (.iload_n i, 1)) (hq : pc + 1 = q) (kk : V G y cc nL ret R Z w c k q lv (.int x :: st)) : V G y cc nL ret R Z w c k pc lv st := by
  subst hq; intro p e s m args below meth co H locs ls C hW hS hl; exact lv_iload_n C.1 C.2.1 d rfl (lv_at hl t ht) (kk p e s m args below meth co H locs ls C hW hS hl)
theorem v_iload {i : Nat} {x : Int32} (t : Nat) (ht : lv[t]? = some ((i : Nat), .int x)) (d : decode cc pc = .ok (.iload i, 2)) (hq : pc + 2 = q) (kk : V G y cc nL ret R Z w c k q lv (.int x :: st)) : V G y cc nL ret R Z w c k pc lv st := by
  subst hq; intro p e s m args below meth co H locs ls C hW hS hl; exact lv_iload C.1 C.2.1 d (lv_at hl t ht) (kk p e s m args below meth co H locs ls C hW hS hl)
theorem v_aload_n {i : Fin 4} {x : Nat} (t : Nat) (ht : lv[t]? = some ((i : Nat), .ref x)) (d : decode cc pc = .ok (.aload_n i, 1)) (hq : pc + 1 = q) (kk : V G y cc nL ret R Z w c k q lv (.ref x :: st)) : V G y cc nL ret R Z w c k pc lv st := by
  subst hq; intro p e s m args below meth co H locs ls C hW hS hl; exact lv_aload_n C.1 C.2.1 d rfl (lv_at hl t ht) (kk p e s m args below meth co H locs ls C hW hS hl)
theorem v_aload {i : Nat} {x : Nat} (t : Nat) (ht : lv[t]? = some ((i : Nat), .ref x)) (d : decode cc pc = .ok (.aload i, 2)) (hq : pc + 2 = q) (kk : V G y cc nL ret R Z w c k q lv (.ref x :: st)) : V G y cc nL ret R Z w c k pc lv st := by
  subst hq; intro p e s m args below meth co H locs ls C hW hS hl; exact lv_aload C.1 C.2.1 d (lv_at hl t ht) (kk p e s m args below meth co H locs ls C hW hS hl)
theorem v_istore_n {i : Fin 4} {x : Int32} (lv' : List (Nat × Value)) (d : decode cc pc = .ok (.istore_n i, 1)) (hq : pc + 1 = q) (hn : (i : Nat) < nL) (hv : ((i : Nat), Value.int x) :: lv.filter (fun q => !(q.1 == (i : Nat)) && !(q.1 + 1 == (i : Nat) && q.2.category == 2)) = lv') (kk : V G y cc nL ret R Z w c k q lv' st) : V G y cc nL ret R Z w c k pc lv (.int x :: st) := by
  subst hq; intro p e s m args below meth co H locs ls C hW hS hl; exact lv_istore_n C.1 C.2.1 d rfl hl hn hv (fun ls hl => kk p e s m args below meth co H locs ls C hW hS hl)
theorem v_istore {i : Nat} {x : Int32} (lv' : List (Nat × Value)) (d : decode cc pc = .ok (.istore i, 2)) (hq : pc + 2 = q) (hn : (i : Nat) < nL) (hv : ((i : Nat), Value.int x) :: lv.filter (fun q => !(q.1 == (i : Nat)) && !(q.1 + 1 == (i : Nat) && q.2.category == 2)) = lv') (kk : V G y cc nL ret R Z w c k q lv' st) : V G y cc nL ret R Z w c k pc lv (.int x :: st) := by
  subst hq; intro p e s m args below meth co H locs ls C hW hS hl; exact lv_istore C.1 C.2.1 d hl hn hv (fun ls hl => kk p e s m args below meth co H locs ls C hW hS hl)
theorem v_astore_n {i : Fin 4} {x : Nat} (lv' : List (Nat × Value)) (d : decode cc pc = .ok (.astore_n i, 1)) (hq : pc + 1 = q) (hn : (i : Nat) < nL) (hv : ((i : Nat), Value.ref x) :: lv.filter (fun q => !(q.1 == (i : Nat)) && !(q.1 + 1 == (i : Nat) && q.2.category == 2)) = lv') (kk : V G y cc nL ret R Z w c k q lv' st) : V G y cc nL ret R Z w c k pc lv (.ref x :: st) := by
  subst hq; intro p e s m args below meth co H locs ls C hW hS hl; exact lv_astore_n C.1 C.2.1 d rfl hl hn hv (fun ls hl => kk p e s m args below meth co H locs ls C hW hS hl)
theorem v_astore {i : Nat} {x : Nat} (lv' : List (Nat × Value)) (d : decode cc pc = .ok (.astore i, 2)) (hq : pc + 2 = q) (hn : (i : Nat) < nL) (hv : ((i : Nat), Value.ref x) :: lv.filter (fun q => !(q.1 == (i : Nat)) && !(q.1 + 1 == (i : Nat) && q.2.category == 2)) = lv') (kk : V G y cc nL ret R Z w c k q lv' st) : V G y cc nL ret R Z w c k pc lv (.ref x :: st) := by
  subst hq; intro p e s m args below meth co H locs ls C hW hS hl; exact lv_astore C.1 C.2.1 d hl hn hv (fun ls hl => kk p e s m args below meth co H locs ls C hW hS hl)
theorem v_iinc {i : Nat} {n : Int} {x v : Int32} (lv' : List (Nat × Value)) (t : Nat) (ht : lv[t]? = some (i, .int x)) (hx : x + Int32.ofInt n = v) (d : decode cc pc = .ok (.iinc i n, 3)) (hq : pc + 3 = q) (hn : i < nL) (hv : (i, Value.int v) :: lv.filter (fun q => !(q.1 == i) && !(q.1 + 1 == i && q.2.category == 2)) = lv') (kk : V G y cc nL ret R Z w c k q lv' st) : V G y cc nL ret R Z w c k pc lv st := by
  subst hq; intro p e s m args below meth co H locs ls C hW hS hl; exact lv_iinc C.1 C.2.1 d hl ht hx hn hv (fun ls hl => kk p e s m args below meth co H locs ls C hW hS hl)
theorem v_iadd {x z : Int32} (d : decode cc pc = .ok (.iadd, 1)) (hq : pc + 1 = q) (kk : V G y cc nL ret R Z w c k q lv (.int (x + z) :: st)) : V G y cc nL ret R Z w c k pc lv (.int z :: .int x :: st) := by
  subst hq; intro p e s m args below meth co H locs ls C hW hS hl; exact lv_iadd C.1 C.2.1 d (kk p e s m args below meth co H locs ls C hW hS hl)
theorem v_isub {x z : Int32} (d : decode cc pc = .ok (.isub, 1)) (hq : pc + 1 = q) (kk : V G y cc nL ret R Z w c k q lv (.int (x - z) :: st)) : V G y cc nL ret R Z w c k pc lv (.int z :: .int x :: st) := by
  subst hq; intro p e s m args below meth co H locs ls C hW hS hl; exact lv_isub C.1 C.2.1 d (kk p e s m args below meth co H locs ls C hW hS hl)
theorem v_imul {x z : Int32} (d : decode cc pc = .ok (.imul, 1)) (hq : pc + 1 = q) (kk : V G y cc nL ret R Z w c k q lv (.int (x * z) :: st)) : V G y cc nL ret R Z w c k pc lv (.int z :: .int x :: st) := by
  subst hq; intro p e s m args below meth co H locs ls C hW hS hl; exact lv_imul C.1 C.2.1 d (kk p e s m args below meth co H locs ls C hW hS hl)
theorem v_ishl {x z : Int32} (d : decode cc pc = .ok (.ishl, 1)) (hq : pc + 1 = q) (kk : V G y cc nL ret R Z w c k q lv (.int (x <<< (z &&& 31)) :: st)) : V G y cc nL ret R Z w c k pc lv (.int z :: .int x :: st) := by
  subst hq; intro p e s m args below meth co H locs ls C hW hS hl; exact lv_ishl C.1 C.2.1 d (kk p e s m args below meth co H locs ls C hW hS hl)
theorem v_ishr {x z : Int32} (d : decode cc pc = .ok (.ishr, 1)) (hq : pc + 1 = q) (kk : V G y cc nL ret R Z w c k q lv (.int (x >>> (z &&& 31)) :: st)) : V G y cc nL ret R Z w c k pc lv (.int z :: .int x :: st) := by
  subst hq; intro p e s m args below meth co H locs ls C hW hS hl; exact lv_ishr C.1 C.2.1 d (kk p e s m args below meth co H locs ls C hW hS hl)
theorem v_iand {x z : Int32} (d : decode cc pc = .ok (.iand, 1)) (hq : pc + 1 = q) (kk : V G y cc nL ret R Z w c k q lv (.int (x &&& z) :: st)) : V G y cc nL ret R Z w c k pc lv (.int z :: .int x :: st) := by
  subst hq; intro p e s m args below meth co H locs ls C hW hS hl; exact lv_iand C.1 C.2.1 d (kk p e s m args below meth co H locs ls C hW hS hl)
theorem v_ior {x z : Int32} (d : decode cc pc = .ok (.ior, 1)) (hq : pc + 1 = q) (kk : V G y cc nL ret R Z w c k q lv (.int (x ||| z) :: st)) : V G y cc nL ret R Z w c k pc lv (.int z :: .int x :: st) := by
  subst hq; intro p e s m args below meth co H locs ls C hW hS hl; exact lv_ior C.1 C.2.1 d (kk p e s m args below meth co H locs ls C hW hS hl)
theorem v_ixor {x z : Int32} (d : decode cc pc = .ok (.ixor, 1)) (hq : pc + 1 = q) (kk : V G y cc nL ret R Z w c k q lv (.int (x ^^^ z) :: st)) : V G y cc nL ret R Z w c k pc lv (.int z :: .int x :: st) := by
  subst hq; intro p e s m args below meth co H locs ls C hW hS hl; exact lv_ixor C.1 C.2.1 d (kk p e s m args below meth co H locs ls C hW hS hl)
theorem v_irem {x z : Int32} (h0 : ¬ z = 0) (d : decode cc pc = .ok (.irem, 1)) (hq : pc + 1 = q) (kk : V G y cc nL ret R Z w c k q lv (.int (x - x / z * z) :: st)) : V G y cc nL ret R Z w c k pc lv (.int z :: .int x :: st) := by
  subst hq; intro p e s m args below meth co H locs ls C hW hS hl; exact lv_irem C.1 C.2.1 d h0 (kk p e s m args below meth co H locs ls C hW hS hl)
theorem v_idiv {x z : Int32} (h0 : ¬ z = 0) (d : decode cc pc = .ok (.idiv, 1)) (hq : pc + 1 = q) (kk : V G y cc nL ret R Z w c k q lv (.int (x / z) :: st)) : V G y cc nL ret R Z w c k pc lv (.int z :: .int x :: st) := by
  subst hq; intro p e s m args below meth co H locs ls C hW hS hl; exact lv_idiv C.1 C.2.1 d h0 (kk p e s m args below meth co H locs ls C hW hS hl)
theorem v_iushr {x z : Int32} (d : decode cc pc = .ok (.iushr, 1)) (hq : pc + 1 = q) (kk : V G y cc nL ret R Z w c k q lv (.int ((x.toUInt32 >>> (z.toUInt32 &&& Int32.toUInt32 31)).toInt32) :: st)) : V G y cc nL ret R Z w c k pc lv (.int z :: .int x :: st) := by
  subst hq; intro p e s m args below meth co H locs ls C hW hS hl; exact lv_iushr C.1 C.2.1 d rfl (kk p e s m args below meth co H locs ls C hW hS hl)
theorem v_dup {a : Value} (ha : a.category = 1) (d : decode cc pc = .ok (.dup, 1)) (hq : pc + 1 = q) (kk : V G y cc nL ret R Z w c k q lv (a :: a :: st)) : V G y cc nL ret R Z w c k pc lv (a :: st) := by
  subst hq; intro p e s m args below meth co H locs ls C hW hS hl; exact lv_dup C.1 C.2.1 d ha (kk p e s m args below meth co H locs ls C hW hS hl)
theorem v_dup2 {a b : Value} (ha : a.category = 1) (hb : b.category = 1) (d : decode cc pc = .ok (.dup2, 1)) (hq : pc + 1 = q) (kk : V G y cc nL ret R Z w c k q lv (a :: b :: a :: b :: st)) : V G y cc nL ret R Z w c k pc lv (a :: b :: st) := by
  subst hq; intro p e s m args below meth co H locs ls C hW hS hl; exact lv_dup2_11 C.1 C.2.1 d ha hb (kk p e s m args below meth co H locs ls C hW hS hl)
theorem v_pop {a : Value} (ha : a.category = 1) (d : decode cc pc = .ok (.pop, 1)) (hq : pc + 1 = q) (kk : V G y cc nL ret R Z w c k q lv (st)) : V G y cc nL ret R Z w c k pc lv (a :: st) := by
  subst hq; intro p e s m args below meth co H locs ls C hW hS hl; exact lv_pop C.1 C.2.1 d ha (kk p e s m args below meth co H locs ls C hW hS hl)
theorem v_ldcw {i : Nat} {v : Int32} (hw : Cond.constant y.cls i v ∈ gwT) (d : decode cc pc = .ok (.ldc_w i, 3)) (hq : pc + 3 = q) (kk : V G y cc nL ret R Z w c k q lv (.int v :: st)) : V G y cc nL ret R Z w c k pc lv st := by
  subst hq; intro p e s m args below meth co H locs ls C hW hS hl; exact lv_ldcw C.1 C.2.1 C.2.2.2.1 (C.2.2.2.2.1 _ hw) d (kk p e s m args below meth co H locs ls C hW hS hl)
theorem v_goto {off : Int} (d : decode cc pc = .ok (.goto off, 3)) (ht : (pc : Int) + off = (q : Int)) (kk : V G y cc nL ret R Z w c k q lv st) : V G y cc nL ret R Z w c k pc lv st := by
  intro p e s m args below meth co H locs ls C hW hS hl; exact lv_goto C.1 C.2.1 d ht (kk p e s m args below meth co H locs ls C hW hS hl)
theorem v_icmp_eq {x z : Int32} {off : Int} (t : Nat) (d : decode cc pc = .ok (.if_icmp .eq off, 3)) (ht : (pc : Int) + off = (t : Int)) (hq : pc + 3 = q) (kt : x = z → V G y cc nL ret R Z w c k t lv st) (kf : ¬ x = z → V G y cc nL ret R Z w c k q lv st) : V G y cc nL ret R Z w c k pc lv (.int z :: .int x :: st) := by
  subst hq; intro p e s m args below meth co H locs ls C hW hS hl; exact lv_icmp_eq C.1 C.2.1 d ht (fun h => kt h p e s m args below meth co H locs ls C hW hS hl) (fun h => kf h p e s m args below meth co H locs ls C hW hS hl)
theorem v_icmp_ne {x z : Int32} {off : Int} (t : Nat) (d : decode cc pc = .ok (.if_icmp .ne off, 3)) (ht : (pc : Int) + off = (t : Int)) (hq : pc + 3 = q) (kt : ¬ x = z → V G y cc nL ret R Z w c k t lv st) (kf : x = z → V G y cc nL ret R Z w c k q lv st) : V G y cc nL ret R Z w c k pc lv (.int z :: .int x :: st) := by
  subst hq; intro p e s m args below meth co H locs ls C hW hS hl; exact lv_icmp_ne C.1 C.2.1 d ht (fun h => kt h p e s m args below meth co H locs ls C hW hS hl) (fun h => kf h p e s m args below meth co H locs ls C hW hS hl)
theorem v_icmp_lt {x z : Int32} {off : Int} (t : Nat) (d : decode cc pc = .ok (.if_icmp .lt off, 3)) (ht : (pc : Int) + off = (t : Int)) (hq : pc + 3 = q) (kt : x < z → V G y cc nL ret R Z w c k t lv st) (kf : ¬ x < z → V G y cc nL ret R Z w c k q lv st) : V G y cc nL ret R Z w c k pc lv (.int z :: .int x :: st) := by
  subst hq; intro p e s m args below meth co H locs ls C hW hS hl; exact lv_icmp_lt C.1 C.2.1 d ht (fun h => kt h p e s m args below meth co H locs ls C hW hS hl) (fun h => kf h p e s m args below meth co H locs ls C hW hS hl)
theorem v_icmp_ge {x z : Int32} {off : Int} (t : Nat) (d : decode cc pc = .ok (.if_icmp .ge off, 3)) (ht : (pc : Int) + off = (t : Int)) (hq : pc + 3 = q) (kt : z ≤ x → V G y cc nL ret R Z w c k t lv st) (kf : ¬ z ≤ x → V G y cc nL ret R Z w c k q lv st) : V G y cc nL ret R Z w c k pc lv (.int z :: .int x :: st) := by
  subst hq; intro p e s m args below meth co H locs ls C hW hS hl; exact lv_icmp_ge C.1 C.2.1 d ht (fun h => kt h p e s m args below meth co H locs ls C hW hS hl) (fun h => kf h p e s m args below meth co H locs ls C hW hS hl)
theorem v_icmp_gt {x z : Int32} {off : Int} (t : Nat) (d : decode cc pc = .ok (.if_icmp .gt off, 3)) (ht : (pc : Int) + off = (t : Int)) (hq : pc + 3 = q) (kt : z < x → V G y cc nL ret R Z w c k t lv st) (kf : ¬ z < x → V G y cc nL ret R Z w c k q lv st) : V G y cc nL ret R Z w c k pc lv (.int z :: .int x :: st) := by
  subst hq; intro p e s m args below meth co H locs ls C hW hS hl; exact lv_icmp_gt C.1 C.2.1 d ht (fun h => kt h p e s m args below meth co H locs ls C hW hS hl) (fun h => kf h p e s m args below meth co H locs ls C hW hS hl)
theorem v_icmp_le {x z : Int32} {off : Int} (t : Nat) (d : decode cc pc = .ok (.if_icmp .le off, 3)) (ht : (pc : Int) + off = (t : Int)) (hq : pc + 3 = q) (kt : x ≤ z → V G y cc nL ret R Z w c k t lv st) (kf : ¬ x ≤ z → V G y cc nL ret R Z w c k q lv st) : V G y cc nL ret R Z w c k pc lv (.int z :: .int x :: st) := by
  subst hq; intro p e s m args below meth co H locs ls C hW hS hl; exact lv_icmp_le C.1 C.2.1 d ht (fun h => kt h p e s m args below meth co H locs ls C hW hS hl) (fun h => kf h p e s m args below meth co H locs ls C hW hS hl)
theorem v_if_eq {x : Int32} {off : Int} (t : Nat) (d : decode cc pc = .ok (.ifCond .eq off, 3)) (ht : (pc : Int) + off = (t : Int)) (hq : pc + 3 = q) (kt : x = 0 → V G y cc nL ret R Z w c k t lv st) (kf : ¬ x = 0 → V G y cc nL ret R Z w c k q lv st) : V G y cc nL ret R Z w c k pc lv (.int x :: st) := by
  subst hq; intro p e s m args below meth co H locs ls C hW hS hl; exact lv_if_eq C.1 C.2.1 d ht (fun h => kt h p e s m args below meth co H locs ls C hW hS hl) (fun h => kf h p e s m args below meth co H locs ls C hW hS hl)
theorem v_if_ne {x : Int32} {off : Int} (t : Nat) (d : decode cc pc = .ok (.ifCond .ne off, 3)) (ht : (pc : Int) + off = (t : Int)) (hq : pc + 3 = q) (kt : ¬ x = 0 → V G y cc nL ret R Z w c k t lv st) (kf : x = 0 → V G y cc nL ret R Z w c k q lv st) : V G y cc nL ret R Z w c k pc lv (.int x :: st) := by
  subst hq; intro p e s m args below meth co H locs ls C hW hS hl; exact lv_if_ne C.1 C.2.1 d ht (fun h => kt h p e s m args below meth co H locs ls C hW hS hl) (fun h => kf h p e s m args below meth co H locs ls C hW hS hl)
theorem v_if_lt {x : Int32} {off : Int} (t : Nat) (d : decode cc pc = .ok (.ifCond .lt off, 3)) (ht : (pc : Int) + off = (t : Int)) (hq : pc + 3 = q) (kt : x < 0 → V G y cc nL ret R Z w c k t lv st) (kf : ¬ x < 0 → V G y cc nL ret R Z w c k q lv st) : V G y cc nL ret R Z w c k pc lv (.int x :: st) := by
  subst hq; intro p e s m args below meth co H locs ls C hW hS hl; exact lv_if_lt C.1 C.2.1 d ht (fun h => kt h p e s m args below meth co H locs ls C hW hS hl) (fun h => kf h p e s m args below meth co H locs ls C hW hS hl)
theorem v_if_ge {x : Int32} {off : Int} (t : Nat) (d : decode cc pc = .ok (.ifCond .ge off, 3)) (ht : (pc : Int) + off = (t : Int)) (hq : pc + 3 = q) (kt : 0 ≤ x → V G y cc nL ret R Z w c k t lv st) (kf : ¬ 0 ≤ x → V G y cc nL ret R Z w c k q lv st) : V G y cc nL ret R Z w c k pc lv (.int x :: st) := by
  subst hq; intro p e s m args below meth co H locs ls C hW hS hl; exact lv_if_ge C.1 C.2.1 d ht (fun h => kt h p e s m args below meth co H locs ls C hW hS hl) (fun h => kf h p e s m args below meth co H locs ls C hW hS hl)
theorem v_if_gt {x : Int32} {off : Int} (t : Nat) (d : decode cc pc = .ok (.ifCond .gt off, 3)) (ht : (pc : Int) + off = (t : Int)) (hq : pc + 3 = q) (kt : 0 < x → V G y cc nL ret R Z w c k t lv st) (kf : ¬ 0 < x → V G y cc nL ret R Z w c k q lv st) : V G y cc nL ret R Z w c k pc lv (.int x :: st) := by
  subst hq; intro p e s m args below meth co H locs ls C hW hS hl; exact lv_if_gt C.1 C.2.1 d ht (fun h => kt h p e s m args below meth co H locs ls C hW hS hl) (fun h => kf h p e s m args below meth co H locs ls C hW hS hl)
theorem v_if_le {x : Int32} {off : Int} (t : Nat) (d : decode cc pc = .ok (.ifCond .le off, 3)) (ht : (pc : Int) + off = (t : Int)) (hq : pc + 3 = q) (kt : x ≤ 0 → V G y cc nL ret R Z w c k t lv st) (kf : ¬ x ≤ 0 → V G y cc nL ret R Z w c k q lv st) : V G y cc nL ret R Z w c k pc lv (.int x :: st) := by
  subst hq; intro p e s m args below meth co H locs ls C hW hS hl; exact lv_if_le C.1 C.2.1 d ht (fun h => kt h p e s m args below meth co H locs ls C hW hS hl) (fun h => kf h p e s m args below meth co H locs ls C hW hS hl)
theorem v_tableIn {dflt lo hi : Int} {offs : Array Int} {len : Nat} {x : Int32} {off : Int} (t : Nat) (d : decode cc pc = .ok (.tableswitch dflt lo hi offs, len)) (h1 : ¬ x.toInt < lo) (h2 : ¬ hi < x.toInt) (ho : offs[(x.toInt - lo).toNat]? = some off) (ht : (pc : Int) + off = (t : Int)) (kk : V G y cc nL ret R Z w c k t lv st) : V G y cc nL ret R Z w c k pc lv (.int x :: st) := by
  intro p e s m args below meth co H locs ls C hW hS hl; exact lv_tableIn C.1 C.2.1 d h1 h2 ho ht (kk p e s m args below meth co H locs ls C hW hS hl)
theorem v_tableOut {dflt lo hi : Int} {offs : Array Int} {len : Nat} {x : Int32} (t : Nat) (d : decode cc pc = .ok (.tableswitch dflt lo hi offs, len)) (h : x.toInt < lo ∨ hi < x.toInt) (ht : (pc : Int) + dflt = (t : Int)) (kk : V G y cc nL ret R Z w c k t lv st) : V G y cc nL ret R Z w c k pc lv (.int x :: st) := by
  intro p e s m args below meth co H locs ls C hW hS hl; exact lv_tableOut C.1 C.2.1 d h ht (kk p e s m args below meth co H locs ls C hW hS hl)
theorem v_sub (ts : List Nat) {lv' : List (Nat × Value)} (hp : lv_pick lv ts = lv') (kk : V G y cc nL ret R Z w c k pc lv' st) : V G y cc nL ret R Z w c k pc lv st := by
  intro p e s m args below meth co H locs ls C hW hS hl; exact kk p e s m args below meth co H locs ls C hW hS (lv_sub hl ts hp)
theorem v_wid {c' k' : Nat} (hc : c ≤ c') (hk : k ≤ k') (kk : V G y cc nL ret R Z w c' k' pc lv st) : V G y cc nL ret R Z w c k pc lv st := by
  intro p e s m args below meth co H locs ls C hW hS hl; exact W.widen (k := c') (n := k') hc hk (kk p e s m args below meth co H locs ls C hW hS hl)
end VROWS
end
section
/-! what the rows read and write: the answers are 'none' where the machine itself would throw -/
def h_gI (σ : Hp) (ci a k : Nat) : Option Int32 := if oK σ a = ci then some (oI σ a k) else none
def h_gR (σ : Hp) (ci a k : Nat) : Option Nat := if oK σ a = ci then oR σ a k else none
def h_pI (σ : Hp) (ci a k : Nat) (v : Int32) : Option Hp := if oK σ a = ci then some (sI σ a k v) else none
def h_pR (σ : Hp) (ci a k : Nat) (v : Nat) : Option Hp := if oK σ a = ci then some (sR σ a k v) else none
def h_aI (σ : Hp) (a : Nat) (i : Int32) : Option Int32 := if oK σ a = 13 ∧ ¬ (i < 0 ∨ oZ σ a ≤ i.toNatClampNeg) then some (oI σ a i.toNatClampNeg) else none
def h_aR (σ : Hp) (kd a : Nat) (i : Int32) : Option Nat := if oK σ a = kd ∧ ¬ (i < 0 ∨ oZ σ a ≤ i.toNatClampNeg) then oR σ a i.toNatClampNeg else none
def h_qI (σ : Hp) (a : Nat) (i v : Int32) : Option Hp := if oK σ a = 13 ∧ ¬ (i < 0 ∨ oZ σ a ≤ i.toNatClampNeg) then some (sI σ a i.toNatClampNeg v) else none
def h_qR (σ : Hp) (kd ci a : Nat) (i : Int32) (v : Nat) : Option Hp := if (oK σ a = kd ∧ oK σ v = ci) ∧ ¬ (i < 0 ∨ oZ σ a ≤ i.toNatClampNeg) then some (sR σ a i.toNatClampNeg v) else none
def h_aL (σ : Hp) (kd a : Nat) : Option Int32 := if oK σ a = kd then some (Int32.ofNat (oZ σ a)) else none
def h_gO (σ : Hp) (ci a : Nat) : Option Unit := if oK σ a = ci then some () else none
def h_cp (σ : Hp) (a0 a : Nat) (sp dp n : Int32) : Option Hp := if (oK σ a0 = 13 ∧ oK σ a = 13) ∧ (¬ sp < 0 ∧ ¬ dp < 0 ∧ ¬ n < 0) ∧ sp.toNatClampNeg + n.toNatClampNeg ≤ oZ σ a0 ∧ dp.toNatClampNeg + n.toNatClampNeg ≤ oZ σ a then some (sC σ a0 a sp.toNatClampNeg dp.toNatClampNeg n.toNatClampNeg) else none
def h_gZ (v : Int32) : Option Unit := if v = 0 ∨ v = 1 then some () else none
def h_nz (v : Int32) : Option Unit := if v = 0 then none else some ()
def m_A (μ : Mu) (j : Nat) (i : Int32) : Option Int32 := if ¬ (i < 0 ∨ mZ j ≤ i.toNatClampNeg) then some (μ.2 j i.toNatClampNeg) else none
def m_Q (μ : Mu) (j : Nat) (i v : Int32) : Option Mu := if ¬ (i < 0 ∨ mZ j ≤ i.toNatClampNeg) then some (mT μ j i.toNatClampNeg v) else none
def m_P (μ : Mu) (k : Nat) (v : Int32) : Option Mu := some (mS μ k v)
theorem o_b {α β : Type} {x : Option α} {f : α → Option β} {b : β} (h : x.bind f = some b) : ∃ a, x = some a ∧ f a = some b := by
  cases x with
  | none => cases h
  | some a => exact ⟨a, rfl, h⟩
theorem o_p {c : Prop} [Decidable c] {α : Type} {a b x : α} (hc : c) (h : (if c then a else b) = x) : a = x := by rwa [if_pos hc] at h
theorem o_n {c : Prop} [Decidable c] {α : Type} {a b x : α} (hc : ¬ c) (h : (if c then a else b) = x) : b = x := by rwa [if_neg hc] at h
theorem o_s {α β : Type} {a c : α} {b d : β} (h : some (a, b) = some (c, d)) : a = c ∧ b = d := by cases h; exact ⟨rfl, rfl⟩
theorem o_i {c : Prop} [Decidable c] {α : Type} {a b : α} (h : (if c then some a else none) = some b) : c ∧ a = b := by
  by_cases hc : c
  · rw [if_pos hc] at h; exact ⟨hc, Option.some.inj h⟩
  · rw [if_neg hc] at h; cases h
theorem o_j {c : Prop} [Decidable c] {α : Type} {x : Option α} {b : α} (h : (if c then x else none) = some b) : c ∧ x = some b := by
  by_cases hc : c
  · rw [if_pos hc] at h; exact ⟨hc, h⟩
  · rw [if_neg hc] at h; cases h
theorem oK_sI (σ : Hp) (a k : Nat) (v : Int32) : oK (sI σ a k v) = oK σ := rfl
theorem oZ_sI (σ : Hp) (a k : Nat) (v : Int32) : oZ (sI σ a k v) = oZ σ := rfl
theorem oI_sI (σ : Hp) (a k : Nat) (v : Int32) : oI (sI σ a k v) = up2 (oI σ) a k v := rfl
theorem oR_sI (σ : Hp) (a k : Nat) (v : Int32) : oR (sI σ a k v) = oR σ := rfl
theorem oN_sI (σ : Hp) (a k : Nat) (v : Int32) : oN (sI σ a k v) = oN σ := rfl
theorem oK_sR (σ : Hp) (a k v : Nat) : oK (sR σ a k v) = oK σ := rfl
theorem oZ_sR (σ : Hp) (a k v : Nat) : oZ (sR σ a k v) = oZ σ := rfl
theorem oI_sR (σ : Hp) (a k v : Nat) : oI (sR σ a k v) = oI σ := rfl
theorem oR_sR (σ : Hp) (a k v : Nat) : oR (sR σ a k v) = up2 (oR σ) a k (some v) := rfl
theorem oN_sR (σ : Hp) (a k v : Nat) : oN (sR σ a k v) = oN σ := rfl
theorem oK_sC (σ : Hp) (a0 a sp dp n : Nat) : oK (sC σ a0 a sp dp n) = oK σ := rfl
theorem oZ_sC (σ : Hp) (a0 a sp dp n : Nat) : oZ (sC σ a0 a sp dp n) = oZ σ := rfl
theorem oI_sC (σ : Hp) (a0 a sp dp n : Nat) : oI (sC σ a0 a sp dp n) = va_up (oI σ) a (va_cpy (oI σ a0) (oI σ a) sp dp n) := rfl
theorem oR_sC (σ : Hp) (a0 a sp dp n : Nat) : oR (sC σ a0 a sp dp n) = oR σ := rfl
theorem oN_sC (σ : Hp) (a0 a sp dp n : Nat) : oN (sC σ a0 a sp dp n) = oN σ := rfl
theorem oK_nw (σ : Hp) (kd len : Nat) : oK (nw σ kd len) = va_up (oK σ) (oN σ) kd := rfl
theorem oZ_nw (σ : Hp) (kd len : Nat) : oZ (nw σ kd len) = va_up (oZ σ) (oN σ) len := rfl
theorem oI_nw (σ : Hp) (kd len : Nat) : oI (nw σ kd len) = va_up (oI σ) (oN σ) (fun _ => 0) := rfl
theorem oR_nw (σ : Hp) (kd len : Nat) : oR (nw σ kd len) = va_up (oR σ) (oN σ) (fun _ => none) := rfl
theorem oN_nw (σ : Hp) (kd len : Nat) : oN (nw σ kd len) = oN σ + 1 := rfl
/-! the world under change -/
theorem oAt_congr {G : Gm} {σ σ' : Hp} {b : Nat} {H H1 : Heap} (h1 : oK σ' b = oK σ b) (h2 : oZ σ' b = oZ σ b) (h3 : oI σ' b = oI σ b) (h4 : oR σ' b = oR σ b) (hH : H1[b]? = H[b]?) (h : oAt G σ b H) : oAt G σ' b H1 := by
  have hF : oF σ' b = oF σ b := by funext j; unfold oF; rw [h1, h3, h4]
  have hV : oV σ' b = oV σ b := by funext j; unfold oV; rw [h1, h3, h4]
  unfold oAt at h ⊢
  rw [h1, h2, hF, hV]
  by_cases hk : oK σ b < 13
  · rw [if_pos hk] at h ⊢; exact h.kept hH
  · rw [if_neg hk] at h ⊢; exact hH.trans h
theorem mAt_kept {G : Gm} {μ : Mu} {o : Int64} {j : Nat} {H H1 : Heap} (hH : H1[gM G j]? = H[gM G j]?) (h : mAt G μ o j H) : mAt G μ o j H1 := by
  unfold mAt at h ⊢
  by_cases h0 : j = 200
  · subst h0; rw [if_pos rfl] at h ⊢; exact h.kept hH
  · rw [if_neg h0] at h ⊢
    by_cases h1 : j = 201
    · subst h1; rw [if_pos rfl] at h ⊢; exact hH.trans h
    · rw [if_neg h1] at h ⊢; exact hH.trans h
theorem mAt_lt {G : Gm} {μ : Mu} {o : Int64} {j : Nat} {H : Heap} (h : mAt G μ o j H) : gM G j < H.size := by
  unfold mAt at h
  by_cases h0 : j = 200
  · subst h0; rw [if_pos rfl] at h; obtain ⟨cell, h, -⟩ := h; exact (Array.getElem?_eq_some_iff.mp h).1
  · rw [if_neg h0] at h
    by_cases h1 : j = 201
    · subst h1; rw [if_pos rfl] at h; exact (Array.getElem?_eq_some_iff.mp h).1
    · rw [if_neg h1] at h; exact (Array.getElem?_eq_some_iff.mp h).1
theorem Wd.up {G : Gm} {σ σ' : Hp} {μ : Mu} {o : Int64} {H H1 : Heap} (hW : Wd G (σ, μ, o) H) (h1 : oK σ' = oK σ) (h2 : oZ σ' = oZ σ) (h5 : oN σ' = oN σ) (a : Nat) (ha : oK σ a ≠ 99) (h3 : ∀ b, b ≠ a → oI σ' b = oI σ b ∧ oR σ' b = oR σ b) (hA : oAt G σ' a H1) (z : H1.size = H.size) (oq : ∀ q, q ≠ a → H1[q]? = H[q]?) : Wd G (σ', μ, o) H1 := by
  obtain ⟨w1, w2, w3, w4, w5, w6⟩ := hW
  have hlo := (w2 a ha).1
  refine ⟨by rw [z]; exact w1.trans h5.symm, fun b hb => ?_, fun j hj => ?_, w4, fun b hb => ?_, by rw [z]; exact w6⟩
  · have hb' : oK σ b ≠ 99 := by rw [← h1]; exact hb
    refine ⟨(w2 b hb').1, by show b < oN σ'; rw [h5]; exact (w2 b hb').2.1, ?_⟩
    by_cases hba : b = a
    · subst hba; exact hA
    · exact oAt_congr (by rw [h1]) (by rw [h2]) (h3 b hba).1 (h3 b hba).2 (oq b hba) (w2 b hb').2.2
  · obtain ⟨x1, x2, x3⟩ := w3 j hj
    refine ⟨x1, by show oK σ' _ = 99; rw [h1]; exact x2, mAt_kept (oq _ fun e => ha ?_) x3⟩
    rw [← e]; exact x2
  · exact (oq b (by omega)).trans (w5 b hb)
theorem Wd.um {G : Gm} {σ : Hp} {μ μ' : Mu} {o o' : Int64} {H H1 : Heap} (hW : Wd G (σ, μ, o) H) (j0 : Nat) (hj0 : j0 ∈ gF G) (hk : ∀ j, j ≠ j0 → mAt G μ o j H → mAt G μ' o' j H) (hA : mAt G μ' o' j0 H1) (z : H1.size = H.size) (oq : ∀ q, q ≠ gM G j0 → H1[q]? = H[q]?) : Wd G (σ, μ', o') H1 := by
  obtain ⟨w1, w2, w3, w4, w5, w6⟩ := hW
  obtain ⟨x1, x2, x3⟩ := w3 j0 hj0
  refine ⟨by rw [z]; exact w1, fun b hb => ?_, fun j hj => ?_, w4, fun b hb => ?_, by rw [z]; exact w6⟩
  · refine ⟨(w2 b hb).1, (w2 b hb).2.1, oAt_congr rfl rfl rfl rfl (oq b fun e => hb ?_) (w2 b hb).2.2⟩
    rw [e]; exact x2
  · by_cases hjj : j = j0
    · subst hjj; exact ⟨x1, x2, hA⟩
    · obtain ⟨u1, u2, u3⟩ := w3 j hj
      exact ⟨u1, u2, mAt_kept (oq _ fun e => hjj (w4 j hj j0 hj0 e)) (hk j hjj u3)⟩
  · exact (oq b (by omega)).trans (w5 b hb)
theorem Wd.newc {G : Gm} {σ : Hp} {μ : Mu} {o : Int64} {H H1 : Heap} (hW : Wd G (σ, μ, o) H) {kd len : Nat} (hA : oAt G (nw σ kd len) H.size H1) (z : H1.size = H.size + 1) (oq : ∀ q, q < H.size → H1[q]? = H[q]?) : Wd G (nw σ kd len, μ, o) H1 := by
  obtain ⟨w1, w2, w3, w4, w5, w6⟩ := hW
  have w1' : H.size = oN σ := w1
  have hne : ∀ b, b < H.size → b ≠ oN σ := fun b hb => by omega
  refine ⟨by show H1.size = oN σ + 1; omega, fun b hb => ?_, fun j hj => ?_, w4, fun b hb => ?_, by omega⟩
  · by_cases hba : b = oN σ
    · subst hba; rw [← w1']; exact ⟨w6, by show H.size < oN σ + 1; omega, hA⟩
    · have hb' : oK σ b ≠ 99 := by
        have e : oK (nw σ kd len) b = oK σ b := va_up_ne _ _ hba
        rw [← e]; exact hb
      obtain ⟨u1, u2, u3⟩ := w2 b hb'
      have u2' : b < oN σ := u2
      exact ⟨u1, by show b < oN σ + 1; omega, oAt_congr (va_up_ne _ _ hba) (va_up_ne _ _ hba) (va_up_ne _ _ hba) (va_up_ne _ _ hba) (oq b (by omega)) u3⟩
  · obtain ⟨x1, x2, x3⟩ := w3 j hj
    have hl := mAt_lt x3
    exact ⟨x1, (va_up_ne _ _ (hne _ hl)).trans x2, mAt_kept (oq _ hl) x3⟩
  · exact (oq b (by omega)).trans (w5 b hb)
theorem Ks.same {G : Gm} {u U : State} (h : u.vm = U.vm) (hK : Ks G u) : Ks G U := ⟨va_K.moved (by rw [h]; exact Vm.Alike.refl _) hK.1, fun q hq => va_Nw.same rfl h (hK.2.1 q hq), fun C hC => va_AO.moved (by rw [h]; exact Vm.Alike.refl _) (hK.2.2 C hC)⟩
/-! contracts -/
def Pw (G : Gm) (as : List Value) (w : Wt) : Array Value → State → Prop := va_Pc as (fun U => Wd G w U.heap ∧ Ks G U)
def Ci (G : Gm) (y : MethodName) (cc : ByteArray) (nL : Nat) (ret : Option FieldType) (rm : Room) (as : List Value) (w : Wt) (r : Int32) (w' : Wt) (mc ms : Nat) : Prop := Met (gl G) y (wsU y cc nL ret) rm (Pw G as w) (va_Qi (fun (r' : Int32) (_ : Unit) => r' = r) (fun _ t => Wd G w' t.heap) (gA G)) mc ms (gA G)
def Cv (G : Gm) (y : MethodName) (cc : ByteArray) (nL : Nat) (ret : Option FieldType) (rm : Room) (as : List Value) (w w' : Wt) (mc ms : Nat) : Prop := Met (gl G) y (wsU y cc nL ret) rm (Pw G as w) (va_Qv (fun (_ : Unit) => True) (fun _ t => Wd G w' t.heap) (gA G)) mc ms (gA G)
def Cr (G : Gm) (y : MethodName) (cc : ByteArray) (nL : Nat) (ret : Option FieldType) (rm : Room) (as : List Value) (w : Wt) (r : Nat) (w' : Wt) (mc ms : Nat) : Prop := Met (gl G) y (wsU y cc nL ret) rm (Pw G as w) (va_Qr (fun (_ : Unit) => True) (fun _ a t => a = r ∧ Wd G w' t.heap) (gA G)) mc ms (gA G)
def zI (G : Gm) (r : Int32) (w' : Wt) (mc ms : Nat) : ZT := fun _ _ s _ args below _ _ => MQ below (va_Qi (fun (r' : Int32) (_ : Unit) => r' = r) (fun _ t => Wd G w' t.heap) (gA G)) args s mc ms (gA G)
def zV (G : Gm) (w' : Wt) (mc ms : Nat) : ZT := fun _ _ s _ args below _ _ => MQ below (va_Qv (fun (_ : Unit) => True) (fun _ t => Wd G w' t.heap) (gA G)) args s mc ms (gA G)
def zR (G : Gm) (r : Nat) (w' : Wt) (mc ms : Nat) : ZT := fun _ _ s _ args below _ _ => MQ below (va_Qr (fun (_ : Unit) => True) (fun _ a t => a = r ∧ Wd G w' t.heap) (gA G)) args s mc ms (gA G)
theorem v_ofW {G : Gm} {y : MethodName} {cc : ByteArray} {nL : Nat} {ret : Option FieldType} {rm : Room} {as : List Value} {w : Wt} {Qc : Array Value → State → Outcome → State → Prop} {mc ms : Nat} (hn : plainName y.cls = true) (hlen : (lg_sl as).length ≤ nL) (lv : List (Nat × Value)) (hlv : lv_args 0 as = lv)
    (h : V G y cc nL ret rm (fun _ _ s _ args below _ _ => MQ below Qc args s mc ms (gA G)) w 0 0 0 lv []) : Met (gl G) y (wsU y cc nL ret) rm (Pw G as w) Qc mc ms (gA G) := by
  subst hlv
  refine Met.ofW (cc := cc) (maxL := nL) (ret := ret) hn rfl ?_
  intro p e s m args below meth c s₁ B hml hv
  obtain ⟨rfl, hW, hK⟩ := hv
  have hts := atoms_spec (ws := wsU y cc nL ret) B.pre
  have hl := lv_entry as (n := nL) hlen
  rw [lg_entry_eq]
  exact h p e s m _ below meth c s.heap [] _ ⟨B.exec, B.bytes, hml, findClass_of_methodNamed B.named, fun w hw => hts w (List.mem_cons_of_mem _ hw), B.notSynchronized, hK, hW.2.2.2.2.2, B.returns, (name_of_methodNamed B.named B.method).1⟩ hW va_S.rf hl
theorem v_entI {G : Gm} {y : MethodName} {cc : ByteArray} {nL : Nat} {ret : Option FieldType} {rm : Room} {as : List Value} {w w' : Wt} {r : Int32} {mc ms : Nat} (lv : List (Nat × Value)) (hn : plainName y.cls = true) (hlen : (lg_sl as).length ≤ nL) (hlv : lv_args 0 as = lv) (h : V G y cc nL ret rm (zI G r w' mc ms) w 0 0 0 lv []) : Ci G y cc nL ret rm as w r w' mc ms := v_ofW hn hlen lv hlv h
theorem v_entV {G : Gm} {y : MethodName} {cc : ByteArray} {nL : Nat} {ret : Option FieldType} {rm : Room} {as : List Value} {w w' : Wt} {mc ms : Nat} (lv : List (Nat × Value)) (hn : plainName y.cls = true) (hlen : (lg_sl as).length ≤ nL) (hlv : lv_args 0 as = lv) (h : V G y cc nL ret rm (zV G w' mc ms) w 0 0 0 lv []) : Cv G y cc nL ret rm as w w' mc ms := v_ofW hn hlen lv hlv h
theorem v_entR {G : Gm} {y : MethodName} {cc : ByteArray} {nL : Nat} {ret : Option FieldType} {rm : Room} {as : List Value} {w w' : Wt} {r : Nat} {mc ms : Nat} (lv : List (Nat × Value)) (hn : plainName y.cls = true) (hlen : (lg_sl as).length ≤ nL) (hlv : lv_args 0 as = lv) (h : V G y cc nL ret rm (zR G r w' mc ms) w 0 0 0 lv []) : Cr G y cc nL ret rm as w r w' mc ms := v_ofW hn hlen lv hlv h
section VHEAP
variable {G : Gm} {y : MethodName} {cc : ByteArray} {nL : Nat} {ret : Option FieldType} {R : Room} {Z : ZT} {w : Wt} {σ : Hp} {μ : Mu} {o : Int64} {c k pc q : Nat} {lv : List (Nat × Value)} {st : List Value}
/-! ends -/
theorem v_iret {r : Int32} {mc ms : Nat} {ty : FieldType} (hr : ret = some ty) (hn : narrow ty (.int r) = .int r) (hc : c ≤ mc) (hk : k ≤ ms) (d : decode cc pc = .ok (.ireturn, 1)) : V G y cc nL ret R (zI G r w mc ms) w c k pc lv [.int r] := by
  intro p e s m args below meth co H locs ls C hW hS hl
  refine W.widen (k := mc) (n := ms) hc hk ?_
  exact W.zret (v := r) C.1 C.2.1 (C.2.2.2.2.2.2.2.2.1.trans hr) hn (fun t ht hV => ⟨⟨r, (), rfl, rfl, by show Wd G w t.heap; rw [ht]; exact hW⟩, hS.F ht⟩) hS.2.2 d (hlocks := C.2.2.2.2.2.1)
theorem v_vret {mc ms : Nat} (hr : ret = none) (hc : c ≤ mc) (hk : k ≤ ms) (d : decode cc pc = .ok (.return_, 1)) : V G y cc nL ret R (zV G w mc ms) w c k pc lv [] := by
  intro p e s m args below meth co H locs ls C hW hS hl
  refine W.widen (k := mc) (n := ms) hc hk ?_
  exact W.vret C.1 C.2.1 (C.2.2.2.2.2.2.2.2.1.trans hr) (fun t ht hV => ⟨⟨(), rfl, trivial, by show Wd G w t.heap; rw [ht]; exact hW⟩, hS.F ht⟩) hS.2.2 d (hlocks := C.2.2.2.2.2.1)
theorem v_aret {r : Nat} {mc ms : Nat} {n : String} (hr : ret = some (.object n)) (hc : c ≤ mc) (hk : k ≤ ms) (d : decode cc pc = .ok (.areturn, 1)) : V G y cc nL ret R (zR G r w mc ms) w c k pc lv [.ref r] := by
  intro p e s m args below meth co H locs ls C hW hS hl
  refine W.widen (k := mc) (n := ms) hc hk ?_
  exact W.aret (v := .ref r) C.1 C.2.1 (C.2.2.2.2.2.2.2.2.1.trans hr) (Or.inl ⟨n, rfl⟩) (Or.inr ⟨r, rfl⟩) (fun t ht hV => ⟨⟨(), r, rfl, trivial, rfl, by show Wd G w t.heap; rw [ht]; exact hW⟩, hS.F ht⟩) hS.2.2 d (hlocks := C.2.2.2.2.2.1)
/-! fields -/
theorem w_get {p : Program} {e : Env} {s : State} {m : MethodId} {args : Array Value} {below : List Frame} {meth : Method} {co : Code} {H : Heap} {locs : List Loc} {ls : Array Slot} {Q : State → Prop} (C : Cx G y cc nL ret p s m args meth co) {a ci j i : Nat} {f : Nat → Value} {v : Value} (hob : t_OB a ((gD G).1 ci) (cN ci) ((gD G).2 ci) H f) (hv : f j = v) (hci : ci < 13) (hj : j < cN ci) (hw : Cond.fieldLink y.cls i (cT ci j).1 (cT ci j).2.1 (cT ci j).2.2.1 ∈ gwT) (d : decode cc pc = .ok (.getfield i, 3))
    (kk : W p (gl G) e R s m args below meth co H locs c k Q (F0 m (pc + 3) ls (v :: st))) : W p (gl G) e R s m args below meth co H locs c k Q (F0 m pc ls (.ref a :: st)) := by
  obtain ⟨cell, q1, q2, q3, q4⟩ := hob
  obtain ⟨hS9, hfc, kC, hkC, hkind⟩ := C.2.2.2.2.2.2.1.1.1 ci _ (c_at hci)
  obtain ⟨cf, kf, fi, f9, hi, hsl⟩ := hS9 j hj
  refine W.getf C.1 C.2.1 C.2.2.2.1 (C.2.2.2.2.1 _ hw) hi (u_facts hfc hkC (u_lays C.2.2.2.2.1 (c_in hci) hj) hi).1 q1 (by rw [q3]; exact fun h => by cases h) (v := v) ?_ rfl rfl d kk
  rw [hsl, q4 j hj, hv]
theorem w_put {p : Program} {e : Env} {s : State} {m : MethodId} {args : Array Value} {below : List Frame} {meth : Method} {co : Code} {H : Heap} {locs : List Loc} {ls : Array Slot} {Q : State → Prop} (C : Cx G y cc nL ret p s m args meth co) {a ci j i : Nat} {f : Nat → Value} {v : Value} {ty : FieldType} (hob : t_OB a ((gD G).1 ci) (cN ci) ((gD G).2 ci) H f) (hci : ci < 13) (hj : j < cN ci) (hw : Cond.fieldLink y.cls i (cT ci j).1 (cT ci j).2.1 (cT ci j).2.2.1 ∈ gwT) (hfin : (cT ci j).2.2.2 = false) (hty : cY ci j = ty) (hn : narrow ty v = v) (hfit : fits ty v = true) (d : decode cc pc = .ok (.putfield i, 3))
    (kk : ∀ (H1 : Heap) (z : Nat), t_OB a ((gD G).1 ci) (cN ci) ((gD G).2 ci) H1 (updV f j v) → H1.size = H.size → (∀ q, q ≠ a → H1[q]? = H[q]?) → W p (gl G) e R s m args below meth co H1 (locs ++ [⟨a, z⟩]) c k Q (F0 m (pc + 3) ls st)) : W p (gl G) e R s m args below meth co H locs c k Q (F0 m pc ls (v :: .ref a :: st)) := by
  have hd : parseFieldDescriptor (cT ci j).2.2.1 = some ty := by rw [← hty]; exact c_ty hci j hj
  have hap := va_apart (own := y.cls) C.2.2.2.2.1 (c_in hci) (cY ci) (c_ty hci) (c_nm hci) C.2.2.2.2.2.2.1.1 (c_at hci)
  obtain ⟨cell, q1, q2, q3, q4⟩ := hob
  obtain ⟨hS9, hfc, kC, hkC, hkind⟩ := C.2.2.2.2.2.2.1.1.1 ci _ (c_at hci)
  obtain ⟨cf, kf, fi, f9, hi, hsl⟩ := hS9 j hj
  have hlay := C.2.2.2.2.1 _ (c_in hci _ (u_in_lay hj))
  unfold u_lay at hlay
  rw [if_neg (by rw [hfin]; decide)] at hlay
  have hst := (u_facts hfc hkC (u_lays C.2.2.2.2.1 (c_in hci) hj) hi).1
  have h6 := u_store hfc hkC hkind hlay hi hd hn hfit
  refine W.putK C.1 C.2.1 (f := f9) ⟨C.2.2.2.1, C.2.2.2.2.1 _ hw, ⟨_, _, _, hi⟩, hst⟩ (by rw [q2]; exact h6) q1 q3 (by rw [hsl]; exact k2_hasslot (q4 j hj)) rfl rfl d fun H' e1 e2 e3 => ?_
  rw [hsl] at e1 ⊢
  exact kk H' _ ⟨_, e1, q2, q3, t_set q4 hap hj v⟩ e2 e3
theorem w_putF {p : Program} {e : Env} {s : State} {m : MethodId} {args : Array Value} {below : List Frame} {meth : Method} {co : Code} {H : Heap} {locs : List Loc} {ls : Array Slot} {Q : State → Prop} (C : Cx G y cc nL ret p s m args meth co) {a ci j i : Nat} {f : Nat → Value} {v : Value} {ty : FieldType} (hob : t_OB a ((gD G).1 ci) (cN ci) ((gD G).2 ci) H f) (hci : ci < 13) (hj : j < cN ci) (hw : Cond.fieldLink y.cls i (cT ci j).1 (cT ci j).2.1 (cT ci j).2.2.1 ∈ gwT) (hfin : (cT ci j).2.2.2 = true) (hin : y.name = "<init>") (hdecl : (cT ci j).1 = y.cls) (hty : cY ci j = ty) (hn : narrow ty v = v) (hfit : fits ty v = true) (d : decode cc pc = .ok (.putfield i, 3))
    (kk : ∀ (H1 : Heap) (z : Nat), t_OB a ((gD G).1 ci) (cN ci) ((gD G).2 ci) H1 (updV f j v) → H1.size = H.size → (∀ q, q ≠ a → H1[q]? = H[q]?) → W p (gl G) e R s m args below meth co H1 (locs ++ [⟨a, z⟩]) c k Q (F0 m (pc + 3) ls st)) : W p (gl G) e R s m args below meth co H locs c k Q (F0 m pc ls (v :: .ref a :: st)) := by
  have hd : parseFieldDescriptor (cT ci j).2.2.1 = some ty := by rw [← hty]; exact c_ty hci j hj
  have hap := va_apart (own := y.cls) C.2.2.2.2.1 (c_in hci) (cY ci) (c_ty hci) (c_nm hci) C.2.2.2.2.2.2.1.1 (c_at hci)
  obtain ⟨cell, q1, q2, q3, q4⟩ := hob
  obtain ⟨hS9, hfc, kC, hkC, hkind⟩ := C.2.2.2.2.2.2.1.1.1 ci _ (c_at hci)
  obtain ⟨cf, kf, fi, f9, hi, hsl⟩ := hS9 j hj
  have hlay := C.2.2.2.2.1 _ (c_in hci _ (u_in_lay hj))
  unfold u_lay at hlay
  rw [if_pos hfin] at hlay
  have hst := (u_facts hfc hkC (u_lays C.2.2.2.2.1 (c_in hci) hj) hi).1
  have hcf : m.cls = cf := by
    obtain ⟨_, _, c', _, _, _, -, -, hf', -, -, -, hown2, -⟩ := Cond.laysFinal_spec hlay
    have e1 : c' = cf := by have := hi.symm.trans hf'; simp at this; exact this.1.symm
    rw [hdecl] at hown2
    rw [← e1]; exact Option.some.inj (C.2.2.2.1.symm.trans hown2)
  have h6 := u_fits hfc hkC hkind (Or.inr hlay) hi hd hn hfit
  refine W.putFinK C.1 C.2.1 C.2.2.2.1 (C.2.2.2.2.1 _ hw) hi hst hcf (C.2.2.2.2.2.2.2.2.2.trans hin) (by rw [q2]; exact h6) q1 q3 (by rw [hsl]; exact k2_hasslot (q4 j hj)) rfl rfl d fun H' e1 e2 e3 => ?_
  rw [hsl] at e1 ⊢
  exact kk H' _ ⟨_, e1, q2, q3, t_set q4 hap hj v⟩ e2 e3
theorem Wd.ob {H : Heap} (hW : Wd G (σ, μ, o) H) {a ci : Nat} (hK : oK σ a = ci) (hci : ci < 13) : t_OB a ((gD G).1 ci) (cN ci) ((gD G).2 ci) H (oF σ a) := by
  have h : oK σ a ≠ 99 := by omega
  have hA := (hW.2.1 a h).2.2
  unfold oAt at hA
  have e : (σ, μ, o).1 = σ := rfl
  rw [e, hK, if_pos hci] at hA
  exact hA
theorem Wd.arr {H : Heap} (hW : Wd G (σ, μ, o) H) {a kd : Nat} (hK : oK σ a = kd) (h13 : 13 ≤ kd) (h99 : kd ≠ 99) : H[a]? = some (arrV (gC G (kd - 13)) (oZ σ a) (oV σ a)) := by
  have h : oK σ a ≠ 99 := by omega
  have hA := (hW.2.1 a h).2.2
  unfold oAt at hA
  have e : (σ, μ, o).1 = σ := rfl
  rw [e, hK, if_neg (by omega)] at hA
  exact hA
theorem v_getI {ci a i j : Nat} {x : Int32} (hx : h_gI σ ci a j = some x) (hci : ci < 13) (hj : j < cN ci) (hty : isI (cY ci j) = true) (hw : Cond.fieldLink y.cls i (cT ci j).1 (cT ci j).2.1 (cT ci j).2.2.1 ∈ gwT) (d : decode cc pc = .ok (.getfield i, 3)) (hq : pc + 3 = q) (kk : V G y cc nL ret R Z (σ, μ, o) c k q lv (.int x :: st)) : V G y cc nL ret R Z (σ, μ, o) c k pc lv (.ref a :: st) := by
  subst hq
  intro p e s m args below meth co H locs ls C hW hS hl
  obtain ⟨hK, hx⟩ := o_i hx
  exact w_get C (hW.ob hK hci) (v := .int x) (by unfold oF; rw [hK, if_pos hty, hx]) hci hj hw d (kk p e s m args below meth co H locs ls C hW hS hl)
theorem v_getR {ci a i j : Nat} {x : Nat} (hx : h_gR σ ci a j = some x) (hci : ci < 13) (hj : j < cN ci) (hty : isI (cY ci j) = false) (hw : Cond.fieldLink y.cls i (cT ci j).1 (cT ci j).2.1 (cT ci j).2.2.1 ∈ gwT) (d : decode cc pc = .ok (.getfield i, 3)) (hq : pc + 3 = q) (kk : V G y cc nL ret R Z (σ, μ, o) c k q lv (.ref x :: st)) : V G y cc nL ret R Z (σ, μ, o) c k pc lv (.ref a :: st) := by
  subst hq
  intro p e s m args below meth co H locs ls C hW hS hl
  obtain ⟨hK, hx⟩ := o_j hx
  exact w_get C (hW.ob hK hci) (v := .ref x) (by unfold oF; rw [hK, if_neg (by rw [hty]; decide), hx]; rfl) hci hj hw d (kk p e s m args below meth co H locs ls C hW hS hl)
theorem Wd.stI {H H1 : Heap} (hW : Wd G (σ, μ, o) H) {a ci j : Nat} {v : Int32} (hK : oK σ a = ci) (hci : ci < 13) (hty : isI (cY ci j) = true) (hob : t_OB a ((gD G).1 ci) (cN ci) ((gD G).2 ci) H1 (updV (oF σ a) j (.int v))) (z : H1.size = H.size) (oq : ∀ q, q ≠ a → H1[q]? = H[q]?) : Wd G (sI σ a j v, μ, o) H1 := by
  refine hW.up (σ' := sI σ a j v) rfl rfl rfl a (by omega) (fun b hb => ⟨?_, rfl⟩) ?_ z oq
  · funext x; show up2 _ _ _ _ _ _ = _; simp [up2, hb]
  · unfold oAt
    have e : oK (sI σ a j v) a = ci := hK
    rw [e, if_pos hci]
    refine hob.to fun x _ => ?_
    have hK' : oK (sI σ a j v) a = ci := hK
    by_cases hx : x = j
    · subst hx; simp [updV, oF, oK_sI, oI_sI, hK, hty, up2]
    · simp [updV, oF, oK_sI, oI_sI, oR_sI, hK, hx, up2]
theorem Wd.stR {H H1 : Heap} (hW : Wd G (σ, μ, o) H) {a ci j v : Nat} (hK : oK σ a = ci) (hci : ci < 13) (hty : isI (cY ci j) = false) (hob : t_OB a ((gD G).1 ci) (cN ci) ((gD G).2 ci) H1 (updV (oF σ a) j (.ref v))) (z : H1.size = H.size) (oq : ∀ q, q ≠ a → H1[q]? = H[q]?) : Wd G (sR σ a j v, μ, o) H1 := by
  refine hW.up (σ' := sR σ a j v) rfl rfl rfl a (by omega) (fun b hb => ⟨rfl, ?_⟩) ?_ z oq
  · funext x; show up2 _ _ _ _ _ _ = _; simp [up2, hb]
  · unfold oAt
    have e : oK (sR σ a j v) a = ci := hK
    rw [e, if_pos hci]
    refine hob.to fun x _ => ?_
    have hK' : oK (sR σ a j v) a = ci := hK
    by_cases hx : x = j
    · subst hx; simp [updV, oF, oK_sR, oR_sR, hK, hty, up2, va_rf]
    · simp [updV, oF, oK_sR, oI_sR, oR_sR, hK, hx, up2]
theorem v_putI {ci a i j : Nat} {x : Int32} {σ' : Hp} {ty : FieldType} (hx : h_pI σ ci a j x = some σ') (hci : ci < 13) (hj : j < cN ci) (hty : cY ci j = ty) (hfin : (cT ci j).2.2.2 = false) (hn : narrow ty (.int x) = .int x) (hfit : fits ty (.int x) = true) (hI : isI ty = true) (hw : Cond.fieldLink y.cls i (cT ci j).1 (cT ci j).2.1 (cT ci j).2.2.1 ∈ gwT) (d : decode cc pc = .ok (.putfield i, 3)) (hq : pc + 3 = q) (kk : V G y cc nL ret R Z (σ', μ, o) c k q lv st) : V G y cc nL ret R Z (σ, μ, o) c k pc lv (.int x :: .ref a :: st) := by
  subst hq
  intro p e s m args below meth co H locs ls C hW hS hl
  obtain ⟨hK, rfl⟩ := o_i hx
  refine w_put C (hW.ob hK hci) hci hj hw hfin hty hn hfit d (fun H1 z h1 h2 h3 => ?_)
  exact kk p e s m args below meth co H1 _ ls C (hW.stI hK hci (by rw [hty]; exact hI) h1 h2 h3) (hS.put h2 h3 (hW.2.1 a (by show oK σ a ≠ 99; omega)).1) hl
theorem v_putR {ci a i j : Nat} {x : Nat} {σ' : Hp} {n : String} (hx : h_pR σ ci a j x = some σ') (hci : ci < 13) (hj : j < cN ci) (hty : cY ci j = .object n) (hfin : (cT ci j).2.2.2 = false) (hw : Cond.fieldLink y.cls i (cT ci j).1 (cT ci j).2.1 (cT ci j).2.2.1 ∈ gwT) (d : decode cc pc = .ok (.putfield i, 3)) (hq : pc + 3 = q) (kk : V G y cc nL ret R Z (σ', μ, o) c k q lv st) : V G y cc nL ret R Z (σ, μ, o) c k pc lv (.ref x :: .ref a :: st) := by
  subst hq
  intro p e s m args below meth co H locs ls C hW hS hl
  obtain ⟨hK, rfl⟩ := o_i hx
  refine w_put C (hW.ob hK hci) hci hj hw hfin hty rfl rfl d (fun H1 z h1 h2 h3 => ?_)
  exact kk p e s m args below meth co H1 _ ls C (hW.stR hK hci (by rw [hty]; rfl) h1 h2 h3) (hS.put h2 h3 (hW.2.1 a (by show oK σ a ≠ 99; omega)).1) hl
theorem v_putFI {ci a i j : Nat} {x : Int32} {σ' : Hp} {ty : FieldType} (hx : h_pI σ ci a j x = some σ') (hci : ci < 13) (hj : j < cN ci) (hty : cY ci j = ty) (hfin : (cT ci j).2.2.2 = true) (hin : y.name = "<init>") (hdecl : (cT ci j).1 = y.cls) (hn : narrow ty (.int x) = .int x) (hfit : fits ty (.int x) = true) (hI : isI ty = true) (hw : Cond.fieldLink y.cls i (cT ci j).1 (cT ci j).2.1 (cT ci j).2.2.1 ∈ gwT) (d : decode cc pc = .ok (.putfield i, 3)) (hq : pc + 3 = q) (kk : V G y cc nL ret R Z (σ', μ, o) c k q lv st) : V G y cc nL ret R Z (σ, μ, o) c k pc lv (.int x :: .ref a :: st) := by
  subst hq
  intro p e s m args below meth co H locs ls C hW hS hl
  obtain ⟨hK, rfl⟩ := o_i hx
  refine w_putF C (hW.ob hK hci) hci hj hw hfin hin hdecl hty hn hfit d (fun H1 z h1 h2 h3 => ?_)
  exact kk p e s m args below meth co H1 _ ls C (hW.stI hK hci (by rw [hty]; exact hI) h1 h2 h3) (hS.put h2 h3 (hW.2.1 a (by show oK σ a ≠ 99; omega)).1) hl
theorem v_putFR {ci a i j : Nat} {x : Nat} {σ' : Hp} {ty : FieldType} (hx : h_pR σ ci a j x = some σ') (hci : ci < 13) (hj : j < cN ci) (hty : cY ci j = ty) (hfin : (cT ci j).2.2.2 = true) (hin : y.name = "<init>") (hdecl : (cT ci j).1 = y.cls) (hn : narrow ty (.ref x) = .ref x) (hfit : fits ty (.ref x) = true) (hI : isI ty = false) (hw : Cond.fieldLink y.cls i (cT ci j).1 (cT ci j).2.1 (cT ci j).2.2.1 ∈ gwT) (d : decode cc pc = .ok (.putfield i, 3)) (hq : pc + 3 = q) (kk : V G y cc nL ret R Z (σ', μ, o) c k q lv st) : V G y cc nL ret R Z (σ, μ, o) c k pc lv (.ref x :: .ref a :: st) := by
  subst hq
  intro p e s m args below meth co H locs ls C hW hS hl
  obtain ⟨hK, rfl⟩ := o_i hx
  refine w_putF C (hW.ob hK hci) hci hj hw hfin hin hdecl hty hn hfit d (fun H1 z h1 h2 h3 => ?_)
  exact kk p e s m args below meth co H1 _ ls C (hW.stR hK hci (by rw [hty]; exact hI) h1 h2 h3) (hS.put h2 h3 (hW.2.1 a (by show oK σ a ≠ 99; omega)).1) hl
/-! rows of ints and of references -/
theorem v_aI {a : Nat} {i x : Int32} (hx : h_aI σ a i = some x) (d : decode cc pc = .ok (.iaload, 1)) (hq : pc + 1 = q) (kk : V G y cc nL ret R Z (σ, μ, o) c k q lv (.int x :: st)) : V G y cc nL ret R Z (σ, μ, o) c k pc lv (.int i :: .ref a :: st) := by
  subst hq
  intro p e s m args below meth co H locs ls C hW hS hl
  obtain ⟨⟨hK, hin⟩, hx⟩ := o_i hx
  have hlt : i.toNatClampNeg < oZ σ a := Nat.not_le.mp fun q => hin (Or.inr q)
  exact W.iald (v := .int x) C.1 C.2.1 (hW.arr hK (by decide) (by decide)) ((C.2.2.2.2.2.2.1.1.2 0 _ rfl).1 _ _) (fun q => by cases q) (by show ¬ (i < 0 ∨ (arrV _ _ _).slots.size ≤ _); rw [arrV_size]; exact hin) (by show (arrV _ _ _).slots[_]? = _; rw [arrV_read _ _ hlt]; unfold oV; rw [hK, if_pos (by decide), hx]) rfl rfl d (kk p e s m args below meth co H locs ls C hW hS hl)
theorem v_aR {a kd : Nat} {i : Int32} {x : Nat} {n : String} (hx : h_aR σ kd a i = some x) (h15 : 15 ≤ kd) (h20 : kd < 20) (ht : (tysG G)[kd - 13]? = some (gC G (kd - 13), .object n)) (d : decode cc pc = .ok (.aaload, 1)) (hq : pc + 1 = q) (kk : V G y cc nL ret R Z (σ, μ, o) c k q lv (.ref x :: st)) : V G y cc nL ret R Z (σ, μ, o) c k pc lv (.int i :: .ref a :: st) := by
  subst hq
  intro p e s m args below meth co H locs ls C hW hS hl
  obtain ⟨⟨hK, hin⟩, hx⟩ := o_j hx
  have hlt : i.toNatClampNeg < oZ σ a := Nat.not_le.mp fun q => hin (Or.inr q)
  exact W.aald (v := .ref x) (ty := .object n) C.1 C.2.1 (hW.arr hK (by omega) (by omega)) ((C.2.2.2.2.2.2.1.1.2 _ _ ht).1 _ _) rfl (fun q => by cases q) (by show ¬ (i < 0 ∨ (arrV _ _ _).slots.size ≤ _); rw [arrV_size]; exact hin) (by show (arrV _ _ _).slots[_]? = _; rw [arrV_read _ _ hlt]; unfold oV; rw [hK, if_neg (by omega), hx]; rfl) rfl rfl d (kk p e s m args below meth co H locs ls C hW hS hl)
theorem v_aL {a kd : Nat} {x : Int32} {ty : FieldType} (hx : h_aL σ kd a = some x) (h13 : 13 ≤ kd) (h20 : kd < 20) (ht : (tysG G)[kd - 13]? = some (gC G (kd - 13), ty)) (d : decode cc pc = .ok (.arraylength, 1)) (hq : pc + 1 = q) (kk : V G y cc nL ret R Z (σ, μ, o) c k q lv (.int x :: st)) : V G y cc nL ret R Z (σ, μ, o) c k pc lv (.ref a :: st) := by
  subst hq
  intro p e s m args below meth co H locs ls C hW hS hl
  obtain ⟨hK, hx⟩ := o_i hx
  exact W.alen (n := x) C.1 C.2.1 (hW.arr hK (by omega) (by omega)) ((C.2.2.2.2.2.2.1.1.2 _ _ ht).1 _ _) (by rw [arrV_size]; exact hx) rfl rfl d (kk p e s m args below meth co H locs ls C hW hS hl)
theorem Wd.stA {H H1 : Heap} (hW : Wd G (σ, μ, o) H) {a i : Nat} {v : Int32} (hK : oK σ a = 13) (he : H1[a]? = some (arrV (gC G 0) (oZ σ a) (updV (oV σ a) i (.int v)))) (z : H1.size = H.size) (oq : ∀ q, q ≠ a → H1[q]? = H[q]?) : Wd G (sI σ a i v, μ, o) H1 := by
  refine hW.up (σ' := sI σ a i v) rfl rfl rfl a (by omega) (fun b hb => ⟨?_, rfl⟩) ?_ z oq
  · funext x; show up2 _ _ _ _ _ _ = _; simp [up2, hb]
  · unfold oAt
    have e : oK (sI σ a i v) a = 13 := hK
    rw [e, if_neg (by decide), he]
    congr 2
    funext x
    by_cases hx : x = i
    · subst hx; simp [updV, oV, oK_sI, oI_sI, hK, up2]
    · simp [updV, oV, oK_sI, oI_sI, oR_sI, hK, hx, up2]
theorem v_qI {a : Nat} {i x : Int32} {σ' : Hp} (hx : h_qI σ a i x = some σ') (d : decode cc pc = .ok (.iastore, 1)) (hq : pc + 1 = q) (kk : V G y cc nL ret R Z (σ', μ, o) c k q lv st) : V G y cc nL ret R Z (σ, μ, o) c k pc lv (.int x :: .int i :: .ref a :: st) := by
  subst hq
  intro p e s m args below meth co H locs ls C hW hS hl
  obtain ⟨⟨hK, hin⟩, rfl⟩ := o_i hx
  refine W.iast C.1 C.2.1 (hW.arr hK (by decide) (by decide)) ((C.2.2.2.2.2.2.1.1.2 0 _ rfl).1 _ _) (fun q => by cases q) (by show ¬ (i < 0 ∨ (arrV _ _ _).slots.size ≤ _); rw [arrV_size]; exact hin) rfl rfl d fun H1 he z oq => ?_
  rw [arrV_store] at he
  exact kk p e s m args below meth co H1 _ ls C (hW.stA hK he z oq) (hS.put z oq (hW.2.1 a (by show oK σ a ≠ 99; omega)).1) hl
theorem v_qR {a kd ci v : Nat} {i : Int32} {σ' : Hp} (hx : h_qR σ kd ci a i v = some σ') (h15 : 15 ≤ kd) (h20 : kd < 20) (hci : ci < 13) (ht : (tysG G)[kd - 13]? = some (gC G (kd - 13), .object (cC ci))) (d : decode cc pc = .ok (.aastore, 1)) (hq : pc + 1 = q) (kk : V G y cc nL ret R Z (σ', μ, o) c k q lv st) : V G y cc nL ret R Z (σ, μ, o) c k pc lv (.ref v :: .int i :: .ref a :: st) := by
  subst hq
  intro p e s m args below meth co H locs ls C hW hS hl
  obtain ⟨⟨⟨hK, hKv⟩, hin⟩, rfl⟩ := o_i hx
  have hlt : i.toNatClampNeg < oZ σ a := Nat.not_le.mp fun q => hin (Or.inr q)
  have h0 : ¬ i < 0 := fun q => hin (Or.inl q)
  obtain ⟨cellV, g1, g2, g3, -⟩ := hW.ob hKv hci
  have hcls := (C.2.2.2.2.2.2.1.1.1 ci _ (c_at hci)).2
  obtain ⟨kA, comp, k1, k2, k3, -⟩ := (C.2.2.2.2.2.2.1.1.2 _ _ ht).2
  have hcomp : comp = (gD G).1 ci := Option.some.inj (k3.symm.trans hcls.1)
  subst hcomp
  obtain ⟨kC, hkC, -⟩ := hcls.2
  refine W.aast C.1 C.2.1 (hW.arr hK (by omega) (by omega)) (fun q h => by cases h) (fun h => by cases h) k1 k2 rfl hkC ⟨h0, by show _ < (arrV _ _ _).slots.size; rw [arrV_size]; exact hlt⟩ g1 (fun q h => by rw [g3] at h; cases h) (by rw [g2]; exact hkC) (by rw [g2]; exact va_assign hcls) rfl rfl d fun H1 he z oq => ?_
  rw [arrV_store] at he
  refine kk p e s m args below meth co H1 _ ls C (hW.up (σ' := sR σ a i.toNatClampNeg v) rfl rfl rfl a (by omega) (fun b hb => ⟨rfl, ?_⟩) ?_ z oq) (hS.put z oq (hW.2.1 a (by show oK σ a ≠ 99; omega)).1) hl
  · funext x; show up2 _ _ _ _ _ _ = _; simp [up2, hb]
  · unfold oAt
    have e : oK (sR σ a i.toNatClampNeg v) a = kd := hK
    rw [e, if_neg (by omega), he]
    congr 2
    funext x
    have h15' : ¬ kd < 15 := by omega
    by_cases hx : x = i.toNatClampNeg
    · subst hx; simp [updV, oV, oK_sR, oR_sR, hK, h15', up2, va_rf]
    · simp [updV, oV, oK_sR, oR_sR, oI_sR, hK, hx, h15', up2]
/-! the reference's cells -/
theorem Wd.mo {H : Heap} (hW : Wd G (σ, μ, o) H) (h : 200 ∈ gF G) : t_OB (gM G 200) ((gD G).1 12) (cN 12) ((gD G).2 12) H (mF G μ) := by
  have hA := (hW.2.2.1 200 h).2.2
  unfold mAt at hA
  rw [if_pos rfl] at hA
  exact hA
theorem Wd.ma {H : Heap} (hW : Wd G (σ, μ, o) H) {j : Nat} (h : j ∈ gF G) (hj : j < 200) : H[gM G j]? = some (arrV (gC G (mK j)) (mZ j) (fun i => .int (μ.2 j i))) := by
  have hA := (hW.2.2.1 j h).2.2
  unfold mAt at hA
  rw [if_neg (by omega), if_neg (by omega)] at hA
  exact hA
theorem v_mI {i j : Nat} (h : 200 ∈ gF G) (hj : j < 79) (hty : isI (tyX12 j) = true) (hw : Cond.fieldLink y.cls i (cT 12 j).1 (cT 12 j).2.1 (cT 12 j).2.2.1 ∈ gwT) (d : decode cc pc = .ok (.getfield i, 3)) (hq : pc + 3 = q) (kk : V G y cc nL ret R Z (σ, μ, o) c k q lv (.int (μ.1 j) :: st)) : V G y cc nL ret R Z (σ, μ, o) c k pc lv (.ref (gM G 200) :: st) := by
  subst hq
  intro p e s m args below meth co H locs ls C hW hS hl
  exact w_get C (hW.mo h) (v := .int (μ.1 j)) (by unfold mF; rw [if_pos hty]) (by decide) hj hw d (kk p e s m args below meth co H locs ls C hW hS hl)
theorem v_mR {i j : Nat} (h : 200 ∈ gF G) (hj : j < 79) (hty : isI (tyX12 j) = false) (hw : Cond.fieldLink y.cls i (cT 12 j).1 (cT 12 j).2.1 (cT 12 j).2.2.1 ∈ gwT) (d : decode cc pc = .ok (.getfield i, 3)) (hq : pc + 3 = q) (kk : V G y cc nL ret R Z (σ, μ, o) c k q lv (.ref (gM G j) :: st)) : V G y cc nL ret R Z (σ, μ, o) c k pc lv (.ref (gM G 200) :: st) := by
  subst hq
  intro p e s m args below meth co H locs ls C hW hS hl
  exact w_get C (hW.mo h) (v := .ref (gM G j)) (by unfold mF; rw [if_neg (by rw [hty]; decide)]) (by decide) hj hw d (kk p e s m args below meth co H locs ls C hW hS hl)
theorem v_mP {i j : Nat} {x : Int32} {μ' : Mu} {ty : FieldType} (hx : m_P μ j x = some μ') (h : 200 ∈ gF G) (hj : j < 79) (hty : tyX12 j = ty) (hfin : (cT 12 j).2.2.2 = false) (hn : narrow ty (.int x) = .int x) (hfit : fits ty (.int x) = true) (hI : isI ty = true) (hw : Cond.fieldLink y.cls i (cT 12 j).1 (cT 12 j).2.1 (cT 12 j).2.2.1 ∈ gwT) (d : decode cc pc = .ok (.putfield i, 3)) (hq : pc + 3 = q) (kk : V G y cc nL ret R Z (σ, μ', o) c k q lv st) : V G y cc nL ret R Z (σ, μ, o) c k pc lv (.int x :: .ref (gM G 200) :: st) := by
  subst hq
  intro p e s m args below meth co H locs ls C hW hS hl
  have hx' : mS μ j x = μ' := Option.some.inj hx
  subst hx'
  refine w_put C (hW.mo h) (by decide) hj hw hfin hty hn hfit d (fun H1 z h1 h2 h3 => ?_)
  refine kk p e s m args below meth co H1 _ ls C (hW.um 200 h (fun j' hj' hA => ?_) ?_ h2 h3) (hS.put h2 h3 (hW.2.2.1 200 h).1) hl
  · unfold mAt at hA ⊢
    rw [if_neg hj'] at hA ⊢
    exact hA
  · unfold mAt
    rw [if_pos rfl]
    refine h1.to fun x' _ => ?_
    by_cases hx : x' = j
    · subst hx; simp [updV, mF, hty, hI, mS, va_up]
    · simp [updV, mF, hx, mS, va_up]
theorem v_mA {j : Nat} {i x : Int32} (hx : m_A μ j i = some x) (h : j ∈ gF G) (hj : j < 200) (hk : mK j = 0) (d : decode cc pc = .ok (.iaload, 1)) (hq : pc + 1 = q) (kk : V G y cc nL ret R Z (σ, μ, o) c k q lv (.int x :: st)) : V G y cc nL ret R Z (σ, μ, o) c k pc lv (.int i :: .ref (gM G j) :: st) := by
  subst hq
  intro p e s m args below meth co H locs ls C hW hS hl
  obtain ⟨hin, hx⟩ := o_i hx
  have hlt : i.toNatClampNeg < mZ j := Nat.not_le.mp fun q => hin (Or.inr q)
  have hA := hW.ma h hj
  rw [hk] at hA
  exact W.iald (v := .int x) C.1 C.2.1 hA ((C.2.2.2.2.2.2.1.1.2 0 _ rfl).1 _ _) (fun q => by cases q) (by show ¬ (i < 0 ∨ (arrV _ _ _).slots.size ≤ _); rw [arrV_size]; exact hin) (by show (arrV _ _ _).slots[_]? = _; rw [arrV_read _ _ hlt, hx]) rfl rfl d (kk p e s m args below meth co H locs ls C hW hS hl)
theorem v_mZ {j : Nat} {i x : Int32} (hx : m_A μ j i = some x) (h : j ∈ gF G) (hj : j < 200) (hk : mK j = 1) (d : decode cc pc = .ok (.baload, 1)) (hq : pc + 1 = q) (kk : V G y cc nL ret R Z (σ, μ, o) c k q lv (.int x :: st)) : V G y cc nL ret R Z (σ, μ, o) c k pc lv (.int i :: .ref (gM G j) :: st) := by
  subst hq
  intro p e s m args below meth co H locs ls C hW hS hl
  obtain ⟨hin, hx⟩ := o_i hx
  have hlt : i.toNatClampNeg < mZ j := Nat.not_le.mp fun q => hin (Or.inr q)
  have hA := hW.ma h hj
  rw [hk] at hA
  exact W.zald (v := .int x) C.1 C.2.1 hA ((C.2.2.2.2.2.2.1.1.2 1 _ rfl).1 _ _) (fun q => by cases q) (by show ¬ (i < 0 ∨ (arrV _ _ _).slots.size ≤ _); rw [arrV_size]; exact hin) (by show (arrV _ _ _).slots[_]? = _; rw [arrV_read _ _ hlt, hx]) rfl rfl d (kk p e s m args below meth co H locs ls C hW hS hl)
theorem Wd.stT {H H1 : Heap} (hW : Wd G (σ, μ, o) H) {j i : Nat} {v : Int32} (h : j ∈ gF G) (hj : j < 200) (he : H1[gM G j]? = some (arrV (gC G (mK j)) (mZ j) (updV (fun i => .int (μ.2 j i)) i (.int v)))) (z : H1.size = H.size) (oq : ∀ q, q ≠ gM G j → H1[q]? = H[q]?) : Wd G (σ, mT μ j i v, o) H1 := by
  refine hW.um j h (fun j' hj' hA => ?_) ?_ z oq
  · have e : (mT μ j i v).2 j' = μ.2 j' := by funext x; simp [mT, up2, hj']
    unfold mAt at hA ⊢
    rw [e]
    exact hA
  · unfold mAt
    rw [if_neg (by omega), if_neg (by omega), he]
    congr 2
    funext x
    by_cases hx : x = i
    · subst hx; simp [updV, mT, up2]
    · simp [updV, mT, up2, hx]
theorem v_mQ {j : Nat} {i x : Int32} {μ' : Mu} (hx : m_Q μ j i x = some μ') (h : j ∈ gF G) (hj : j < 200) (hk : mK j = 0) (d : decode cc pc = .ok (.iastore, 1)) (hq : pc + 1 = q) (kk : V G y cc nL ret R Z (σ, μ', o) c k q lv st) : V G y cc nL ret R Z (σ, μ, o) c k pc lv (.int x :: .int i :: .ref (gM G j) :: st) := by
  subst hq
  intro p e s m args below meth co H locs ls C hW hS hl
  obtain ⟨hin, rfl⟩ := o_i hx
  have hA := hW.ma h hj
  have hA' := hA
  rw [hk] at hA
  refine W.iast C.1 C.2.1 hA ((C.2.2.2.2.2.2.1.1.2 0 _ rfl).1 _ _) (fun q => by cases q) (by show ¬ (i < 0 ∨ (arrV _ _ _).slots.size ≤ _); rw [arrV_size]; exact hin) rfl rfl d fun H1 he z oq => ?_
  rw [arrV_store] at he
  exact kk p e s m args below meth co H1 _ ls C (hW.stT h hj (by rw [hk]; exact he) z oq) (hS.put z oq (hW.2.2.1 j h).1) hl
theorem v_mW {j : Nat} {i x : Int32} {μ' : Mu} (hx : m_Q μ j i x = some μ') (h : j ∈ gF G) (hj : j < 200) (hk : mK j = 1) (hb : narrow .boolean (.int x) = .int x) (d : decode cc pc = .ok (.bastore, 1)) (hq : pc + 1 = q) (kk : V G y cc nL ret R Z (σ, μ', o) c k q lv st) : V G y cc nL ret R Z (σ, μ, o) c k pc lv (.int x :: .int i :: .ref (gM G j) :: st) := by
  subst hq
  intro p e s m args below meth co H locs ls C hW hS hl
  obtain ⟨hin, rfl⟩ := o_i hx
  have hA := hW.ma h hj
  rw [hk] at hA
  refine W.zast C.1 C.2.1 hA ((C.2.2.2.2.2.2.1.1.2 1 _ rfl).1 _ _) (fun q => by cases q) (by show ¬ (i < 0 ∨ (arrV _ _ _).slots.size ≤ _); rw [arrV_size]; exact hin) rfl rfl d fun H1 he z oq => ?_
  rw [hb, arrV_store] at he
  exact kk p e s m args below meth co H1 _ ls C (hW.stT h hj (by rw [hk]; exact he) z oq) (hS.put z oq (hW.2.2.1 j h).1) hl
end VHEAP
end
section
/-! calls, and what is made -/
/-- what the tables say of a method that is called: its code, its class, its parameters -/
def MOK (y : MethodName) (cc : ByteArray) (nL : Nat) (ret : Option FieldType) (n : Nat) : Prop := Cond.code y cc nL ret ∈ gwT ∧ Cond.initialized y.cls ∈ gwT ∧ (y.cls ≠ "java/lang/invoke/MethodHandle" ∧ y.cls ≠ "java/lang/invoke/VarHandle" ∧ (parseMethodDescriptor y.desc).map (fun d => d.parameters.length) = some n)
/-- the receiver's class -/
def Rcv (G : Gm) (w : Wt) (C : String) (b : Nat) : Prop := (∃ ci, ci < 13 ∧ oK w.1 b = ci ∧ cC ci = C) ∨ (b = gM G 200 ∧ 200 ∈ gF G ∧ cC 12 = C)
theorem rcv_c {G : Gm} {σ : Hp} {μ : Mu} {o : Int64} {C : String} {b ci : Nat} (h : h_gO σ ci b = some ()) (hci : ci < 13) (hC : cC ci = C) : Rcv G (σ, μ, o) C b := Or.inl ⟨ci, hci, (o_i h).1, hC⟩
theorem rcv_m {G : Gm} {w : Wt} (h : 200 ∈ gF G) : Rcv G w RX12 (gM G 200) := Or.inr ⟨rfl, h, rfl⟩
theorem Pw.blind {G : Gm} {as : List Value} {w : Wt} : FrameBlind (Pw G as w) := fun a U g mk h => ⟨h.1, h.2.1, Ks.same (u := U) (U := U.calling g mk a) rfl h.2.2⟩
theorem c_pl {ci j : Nat} (hci : ci < 13) (hj : j < cN ci) : ∀ t : FieldType, t ∈ ([.byte, .char, .short, .long, .float, .double] : List FieldType) → ¬ cY ci j = t := by
  have h : ∀ ci, ci < 13 → ∀ j, j < cN ci → ∀ t ∈ ([.byte, .char, .short, .long, .float, .double] : List FieldType), ¬ cY ci j = t := by decide +kernel
  exact h ci hci j hj
section VCALL
variable {G : Gm} {y : MethodName} {cc : ByteArray} {nL : Nat} {ret : Option FieldType} {R : Room} {Z : ZT} {w w' : Wt} {σ : Hp} {μ : Mu} {o : Int64} {c k c' k' pc q : Nat} {lv : List (Nat × Value)} {st stk : List Value}
variable {z : MethodName} {zc : ByteArray} {zL n i : Nat} {zr : Option FieldType} {rm : Room} {as : List Value} {mc ms b : Nat} {Qc : Array Value → State → Outcome → State → Prop}
theorem Rcv.at (h : Rcv G w z.cls b) {H : Heap} (hW : Wd G w H) {s : State} (hK : Ks G s) : ∃ cellB : Cell, H[b]? = some cellB ∧ cellB.vm.isStatics = false ∧ s.vm.findClass z.cls = some cellB.cls := by
  obtain ⟨σ, μ, o⟩ := w
  rcases h with ⟨ci, hci, hKb, hC⟩ | ⟨rfl, h, hC⟩
  · obtain ⟨cell, g1, g2, g3, -⟩ := hW.ob hKb hci
    exact ⟨cell, g1, by rw [g3]; rfl, by rw [g2, ← hC]; exact (hK.1.1 ci _ (c_at hci)).2.1⟩
  · obtain ⟨cell, g1, g2, g3, -⟩ := hW.mo h
    exact ⟨cell, g1, by rw [g3]; rfl, by rw [g2, ← hC]; exact (hK.1.1 12 _ (c_at (by decide))).2.1⟩
/-- a call's words, room and counts -/
def CK (y : MethodName) (R : Room) (z : MethodName) (zc : ByteArray) (zL : Nat) (zr : Option FieldType) (n : Nat) (rm : Room) (as : List Value) (st : List Value) (mc ms i c k : Nat) : Prop :=
  (rm.frames + 1 ≤ R.frames ∧ 8 + (zL + 11) + rm.locals ≤ R.locals) ∧ (st.map fun v => v.category).sum ≤ 8 ∧ (c + mc ≤ R.cells ∧ k + ms ≤ R.slots) ∧ rm.cells = mc ∧ rm.slots = ms ∧ as.length = n
theorem ck (h : (Nat.ble (rm.frames + 1) R.frames && Nat.ble (8 + (zL + 11) + rm.locals) R.locals && Nat.ble ((st.map fun v => v.category).sum) 8 && Nat.ble (c + mc) R.cells && Nat.ble (k + ms) R.slots && (rm.cells == mc) && (rm.slots == ms) && (as.length == n)) = true) : CK y R z zc zL zr n rm as st mc ms i c k := by
  simp only [Bool.and_eq_true, beq_iff_eq, Nat.ble_eq] at h
  obtain ⟨⟨⟨⟨⟨⟨⟨h1, h2⟩, h3⟩, h4⟩, h5⟩, h6⟩, h7⟩, h8⟩ := h
  exact ⟨⟨h1, h2⟩, h3, ⟨h4, h5⟩, h6, h7, h8⟩
theorem w_V {p : Program} {e : Env} {s : State} {m : MethodId} {args : Array Value} {below : List Frame} {meth : Method} {co : Code} {H : Heap} {locs : List Loc} {ls : Array Slot} (C : Cx G y cc nL ret p s m args meth co) (hW : Wd G w H) (hl : lv_has ls nL lv)
    (hM : Met (gl G) z (wsU z zc zL zr) rm (Pw G (.ref b :: as) w) Qc mc ms (gA G)) (hr : Rcv G w z.cls b) (hm : MOK z zc zL zr n) (hin : Cond.instanceMethod z ∈ gwT) (hse : Cond.selects z.cls z z ∈ gwT) (hlk : Cond.methodLink y.cls i z ∈ gwT) (hck : CK y R z zc zL zr n rm as st mc ms i c k) (hst : stk = as.reverse ++ .ref b :: st) (d : decode cc pc = .ok (.invokevirtual i, 3)) :
    va_Run p (gl G) e R s m args below meth co H locs c k mc ms (F0 m pc ls stk) st (Qc (Value.ref b :: as).toArray) (gA G) := by
  obtain ⟨h1, h2, h3, h4, h5, h6⟩ := hck
  have hts := C.2.2.2.2.1
  exact va_runV (As := as) (rest := st) (C := z.cls) ⟨C.1, C.2.1, C.2.2.1, C.2.2.2.1, hts⟩ hM ⟨callB_of n hts (gw_in hm.1) rfl h4 h5 (hts _ hm.2.1) (hts _ hlk) hm.2.2 h1, hts _ hin, hts _ hse⟩
    ⟨Pw.blind, hr.at hW C.2.2.2.2.2.2.1, fun U hU hV => ⟨rfl, by rw [hU]; exact hW, Ks.moved hV C.2.2.2.2.2.2.1⟩⟩ rfl h6 hl.1 hst (lv_room h2) d h3
theorem w_S {p : Program} {e : Env} {s : State} {m : MethodId} {args : Array Value} {below : List Frame} {meth : Method} {co : Code} {H : Heap} {locs : List Loc} {ls : Array Slot} (C : Cx G y cc nL ret p s m args meth co) (hW : Wd G w H) (hl : lv_has ls nL lv)
    (hM : Met (gl G) z (wsU z zc zL zr) rm (Pw G as w) Qc mc ms (gA G)) (hm : MOK z zc zL zr n) (hin : Cond.static z ∈ gwT) (hlk : Cond.methodLink y.cls i z ∈ gwT) (hck : CK y R z zc zL zr n rm as st mc ms i c k) (hst : stk = as.reverse ++ st) (d : decode cc pc = .ok (.invokestatic i, 3)) :
    va_Run p (gl G) e R s m args below meth co H locs c k mc ms (F0 m pc ls stk) st (Qc as.toArray) (gA G) := by
  obtain ⟨h1, h2, h3, h4, h5, h6⟩ := hck
  have hts := C.2.2.2.2.1
  exact va_runS (As := as) (rest := st) ⟨C.1, C.2.1, C.2.2.1, C.2.2.2.1, hts⟩ hM ⟨callB_of n hts (gw_in hm.1) rfl h4 h5 (hts _ hm.2.1) (hts _ hlk) hm.2.2 h1, hts _ hin⟩
    ⟨Pw.blind, fun U hU hV => ⟨rfl, by rw [hU]; exact hW, Ks.moved hV C.2.2.2.2.2.2.1⟩⟩ rfl h6 hl.1 hst (lv_room h2) d h3
theorem w_I {p : Program} {e : Env} {s : State} {m : MethodId} {args : Array Value} {below : List Frame} {meth : Method} {co : Code} {H : Heap} {locs : List Loc} {ls : Array Slot} (C : Cx G y cc nL ret p s m args meth co) (hW : Wd G w H) (hl : lv_has ls nL lv)
    (hM : Met (gl G) z (wsU z zc zL none) rm (Pw G (.ref b :: as) w) Qc mc ms (gA G)) (hm : MOK z zc zL none n) (hin : Cond.instanceMethod z ∈ gwT) (hnm : z.name = "<init>") (hlk : Cond.methodLink y.cls i z ∈ gwT) (hck : CK y R z zc zL none n rm as st mc ms i c k) (hst : stk = as.reverse ++ .ref b :: st) (d : decode cc pc = .ok (.invokespecial i, 3)) :
    va_Run p (gl G) e R s m args below meth co H locs c k mc ms (F0 m pc ls stk) st (Qc (Value.ref b :: as).toArray) (gA G) := by
  obtain ⟨h1, h2, h3, h4, h5, h6⟩ := hck
  have hts := C.2.2.2.2.1
  exact va_runI (As := as) (rest := st) ⟨C.1, C.2.1, C.2.2.1, C.2.2.2.1, hts⟩ hM ⟨callB_of n hts (gw_in hm.1) rfl h4 h5 (hts _ hm.2.1) (hts _ hlk) hm.2.2 h1, hnm, hts _ hin⟩
    ⟨Pw.blind, fun U hU hV => ⟨rfl, by rw [hU]; exact hW, Ks.moved hV C.2.2.2.2.2.2.1⟩⟩ rfl h6 hl.1 hst (lv_room h2) d h3
theorem w_N {p : Program} {e : Env} {s : State} {m : MethodId} {args : Array Value} {below : List Frame} {meth : Method} {co : Code} {H : Heap} {locs : List Loc} {ls : Array Slot} {host : String} (C : Cx G y cc nL ret p s m args meth co) (hW : Wd G w H) (hl : lv_has ls nL lv)
    (hM : Met (gl G) z (wsU z zc zL none) rm (Pw G (.ref b :: as) w) Qc mc ms (gA G)) (hm : MOK z zc zL none n) (hin : Cond.instanceMethod z ∈ gwT) (hnm : z.name = "<init>") (hlk : (y.cls, i, z, host) ∈ nestL) (hck : CK y R z zc zL none n rm as st mc ms i c k) (hst : stk = as.reverse ++ .ref b :: st) (d : decode cc pc = .ok (.invokespecial i, 3)) :
    va_Run p (gl G) e R s m args below meth co H locs c k mc ms (F0 m pc ls stk) st (Qc (Value.ref b :: as).toArray) (gA G) := by
  obtain ⟨h1, h2, h3, h4, h5, h6⟩ := hck
  have hts := C.2.2.2.2.1
  exact va_runIN (As := as) (rest := st) ⟨C.1, C.2.1, C.2.2.1, C.2.2.2.1, hts⟩ hM ⟨va_cnB n hts (gw_in hm.1) rfl h4 h5 (C.2.2.2.2.2.2.1.2.1 _ hlk) (hts _ hm.2.1) hm.2.2 h1, hnm, hts _ hin⟩
    ⟨Pw.blind, fun U hU hV => ⟨rfl, by rw [hU]; exact hW, Ks.moved hV C.2.2.2.2.2.2.1⟩⟩ rfl h6 hl.1 hst (lv_room h2) d h3
theorem w_ri {p : Program} {e : Env} {s : State} {m : MethodId} {args : Array Value} {below : List Frame} {meth : Method} {co : Code} {H : Heap} {locs : List Loc} {ls : Array Slot} {r : Int32} {av : Array Value} (C : Cx G y cc nL ret p s m args meth co) (hS : va_S (gA G) s.heap H locs) (hl : lv_has ls nL lv)
    (hr : va_Run p (gl G) e R s m args below meth co H locs c k mc ms (F0 m pc ls stk) st (va_Qi (fun (r' : Int32) (_ : Unit) => r' = r) (fun _ t => Wd G w' t.heap) (gA G) av) (gA G)) (hc : c + mc = c') (hk : k + ms = k') (hq : pc + 3 = q) (kk : V G y cc nL ret R Z w' c' k' q lv (.int r :: st)) : W p (gl G) e R s m args below meth co H locs c k (Z p e s m args below meth co) (F0 m pc ls stk) := by
  subst hc hk hq
  refine va_calli hr hS (fun q _ h => h) (fun q h => h) (fun r' u t H1 locs1 ht hvm hpost hB hz hk hS1 => ?_)
  subst hpost
  exact kk p e s m args below meth co H1 locs1 ls C (by rw [← ht]; exact hB) hS1 hl
theorem w_rv {p : Program} {e : Env} {s : State} {m : MethodId} {args : Array Value} {below : List Frame} {meth : Method} {co : Code} {H : Heap} {locs : List Loc} {ls : Array Slot} {av : Array Value} (C : Cx G y cc nL ret p s m args meth co) (hS : va_S (gA G) s.heap H locs) (hl : lv_has ls nL lv)
    (hr : va_Run p (gl G) e R s m args below meth co H locs c k mc ms (F0 m pc ls stk) st (va_Qv (fun (_ : Unit) => True) (fun _ t => Wd G w' t.heap) (gA G) av) (gA G)) (hc : c + mc = c') (hk : k + ms = k') (hq : pc + 3 = q) (kk : V G y cc nL ret R Z w' c' k' q lv st) : W p (gl G) e R s m args below meth co H locs c k (Z p e s m args below meth co) (F0 m pc ls stk) := by
  subst hc hk hq
  refine va_callv hr hS (fun q _ h => h) (fun q h => h) (fun u t H1 locs1 ht hvm hpost hB hz hk hS1 => ?_)
  exact kk p e s m args below meth co H1 locs1 ls C (by rw [← ht]; exact hB) hS1 hl
theorem w_rr {p : Program} {e : Env} {s : State} {m : MethodId} {args : Array Value} {below : List Frame} {meth : Method} {co : Code} {H : Heap} {locs : List Loc} {ls : Array Slot} {r : Nat} {av : Array Value} (C : Cx G y cc nL ret p s m args meth co) (hS : va_S (gA G) s.heap H locs) (hl : lv_has ls nL lv)
    (hr : va_Run p (gl G) e R s m args below meth co H locs c k mc ms (F0 m pc ls stk) st (va_Qr (fun (_ : Unit) => True) (fun _ a t => a = r ∧ Wd G w' t.heap) (gA G) av) (gA G)) (hc : c + mc = c') (hk : k + ms = k') (hq : pc + 3 = q) (kk : V G y cc nL ret R Z w' c' k' q lv (.ref r :: st)) : W p (gl G) e R s m args below meth co H locs c k (Z p e s m args below meth co) (F0 m pc ls stk) := by
  subst hc hk hq
  refine va_callr hr hS (fun q _ h => h) (fun q h => h) (fun u ra t H1 locs1 ht hvm hpost hB hz hk hS1 => ?_)
  obtain ⟨rfl, hB⟩ := hB
  exact kk p e s m args below meth co H1 locs1 ls C (by rw [← ht]; exact hB) hS1 hl
theorem v_Vi {r : Int32} (hM : Ci G z zc zL zr rm (.ref b :: as) w r w' mc ms) (hr : Rcv G w z.cls b) (hm : MOK z zc zL zr n) (hin : Cond.instanceMethod z ∈ gwT) (hse : Cond.selects z.cls z z ∈ gwT) (hlk : Cond.methodLink y.cls i z ∈ gwT) (hck : CK y R z zc zL zr n rm as st mc ms i c k) (hst : stk = as.reverse ++ .ref b :: st) (d : decode cc pc = .ok (.invokevirtual i, 3)) (hc : c + mc = c') (hk : k + ms = k') (hq : pc + 3 = q) (kk : V G y cc nL ret R Z w' c' k' q lv (.int r :: st)) : V G y cc nL ret R Z w c k pc lv stk := by
  intro p e s m args below meth co H locs ls C hW hS hl
  exact w_ri C hS hl (w_V C hW hl hM hr hm hin hse hlk hck hst d) hc hk hq kk
theorem v_Vv (hM : Cv G z zc zL zr rm (.ref b :: as) w w' mc ms) (hr : Rcv G w z.cls b) (hm : MOK z zc zL zr n) (hin : Cond.instanceMethod z ∈ gwT) (hse : Cond.selects z.cls z z ∈ gwT) (hlk : Cond.methodLink y.cls i z ∈ gwT) (hck : CK y R z zc zL zr n rm as st mc ms i c k) (hst : stk = as.reverse ++ .ref b :: st) (d : decode cc pc = .ok (.invokevirtual i, 3)) (hc : c + mc = c') (hk : k + ms = k') (hq : pc + 3 = q) (kk : V G y cc nL ret R Z w' c' k' q lv (st)) : V G y cc nL ret R Z w c k pc lv stk := by
  intro p e s m args below meth co H locs ls C hW hS hl
  exact w_rv C hS hl (w_V C hW hl hM hr hm hin hse hlk hck hst d) hc hk hq kk
theorem v_Vr {r : Nat} (hM : Cr G z zc zL zr rm (.ref b :: as) w r w' mc ms) (hr : Rcv G w z.cls b) (hm : MOK z zc zL zr n) (hin : Cond.instanceMethod z ∈ gwT) (hse : Cond.selects z.cls z z ∈ gwT) (hlk : Cond.methodLink y.cls i z ∈ gwT) (hck : CK y R z zc zL zr n rm as st mc ms i c k) (hst : stk = as.reverse ++ .ref b :: st) (d : decode cc pc = .ok (.invokevirtual i, 3)) (hc : c + mc = c') (hk : k + ms = k') (hq : pc + 3 = q) (kk : V G y cc nL ret R Z w' c' k' q lv (.ref r :: st)) : V G y cc nL ret R Z w c k pc lv stk := by
  intro p e s m args below meth co H locs ls C hW hS hl
  exact w_rr C hS hl (w_V C hW hl hM hr hm hin hse hlk hck hst d) hc hk hq kk
theorem v_Si {r : Int32} (hM : Ci G z zc zL zr rm as w r w' mc ms) (hm : MOK z zc zL zr n) (hin : Cond.static z ∈ gwT) (hlk : Cond.methodLink y.cls i z ∈ gwT) (hck : CK y R z zc zL zr n rm as st mc ms i c k) (hst : stk = as.reverse ++ st) (d : decode cc pc = .ok (.invokestatic i, 3)) (hc : c + mc = c') (hk : k + ms = k') (hq : pc + 3 = q) (kk : V G y cc nL ret R Z w' c' k' q lv (.int r :: st)) : V G y cc nL ret R Z w c k pc lv stk := by
  intro p e s m args below meth co H locs ls C hW hS hl
  exact w_ri C hS hl (w_S C hW hl hM hm hin hlk hck hst d) hc hk hq kk
theorem v_Sv (hM : Cv G z zc zL zr rm as w w' mc ms) (hm : MOK z zc zL zr n) (hin : Cond.static z ∈ gwT) (hlk : Cond.methodLink y.cls i z ∈ gwT) (hck : CK y R z zc zL zr n rm as st mc ms i c k) (hst : stk = as.reverse ++ st) (d : decode cc pc = .ok (.invokestatic i, 3)) (hc : c + mc = c') (hk : k + ms = k') (hq : pc + 3 = q) (kk : V G y cc nL ret R Z w' c' k' q lv (st)) : V G y cc nL ret R Z w c k pc lv stk := by
  intro p e s m args below meth co H locs ls C hW hS hl
  exact w_rv C hS hl (w_S C hW hl hM hm hin hlk hck hst d) hc hk hq kk
theorem v_Sr {r : Nat} (hM : Cr G z zc zL zr rm as w r w' mc ms) (hm : MOK z zc zL zr n) (hin : Cond.static z ∈ gwT) (hlk : Cond.methodLink y.cls i z ∈ gwT) (hck : CK y R z zc zL zr n rm as st mc ms i c k) (hst : stk = as.reverse ++ st) (d : decode cc pc = .ok (.invokestatic i, 3)) (hc : c + mc = c') (hk : k + ms = k') (hq : pc + 3 = q) (kk : V G y cc nL ret R Z w' c' k' q lv (.ref r :: st)) : V G y cc nL ret R Z w c k pc lv stk := by
  intro p e s m args below meth co H locs ls C hW hS hl
  exact w_rr C hS hl (w_S C hW hl hM hm hin hlk hck hst d) hc hk hq kk
theorem v_Iv (hM : Cv G z zc zL none rm (.ref b :: as) w w' mc ms) (hm : MOK z zc zL none n) (hin : Cond.instanceMethod z ∈ gwT) (hnm : z.name = "<init>") (hlk : Cond.methodLink y.cls i z ∈ gwT) (hck : CK y R z zc zL none n rm as st mc ms i c k) (hst : stk = as.reverse ++ .ref b :: st) (d : decode cc pc = .ok (.invokespecial i, 3)) (hc : c + mc = c') (hk : k + ms = k') (hq : pc + 3 = q) (kk : V G y cc nL ret R Z w' c' k' q lv (st)) : V G y cc nL ret R Z w c k pc lv stk := by
  intro p e s m args below meth co H locs ls C hW hS hl
  exact w_rv C hS hl (w_I C hW hl hM hm hin hnm hlk hck hst d) hc hk hq kk
theorem v_Nv (hM : Cv G z zc zL none rm (.ref b :: as) w w' mc ms) (hm : MOK z zc zL none n) (hin : Cond.instanceMethod z ∈ gwT) (hnm : z.name = "<init>") {host : String} (hlk : (y.cls, i, z, host) ∈ nestL) (hck : CK y R z zc zL none n rm as st mc ms i c k) (hst : stk = as.reverse ++ .ref b :: st) (d : decode cc pc = .ok (.invokespecial i, 3)) (hc : c + mc = c') (hk : k + ms = k') (hq : pc + 3 = q) (kk : V G y cc nL ret R Z w' c' k' q lv (st)) : V G y cc nL ret R Z w c k pc lv stk := by
  intro p e s m args below meth co H locs ls C hW hS hl
  exact w_rv C hS hl (w_N C hW hl hM hm hin hnm hlk hck hst d) hc hk hq kk
theorem v_obj {b : Nat} (hlk : Cond.methodLink y.cls i objectInit ∈ gwT) (hin : Cond.instanceMethod objectInit ∈ gwT) (hco : Cond.code objectInit ⟨#[0xb1]⟩ 1 none ∈ gwT) (hR : 1 ≤ R.frames) (hL : (st.map fun v => v.category).sum + 12 ≤ R.locals) (d : decode cc pc = .ok (.invokespecial i, 3)) (hq : pc + 3 = q) (kk : V G y cc nL ret R Z w c k q lv st) : V G y cc nL ret R Z w c k pc lv (.ref b :: st) := by
  subst hq
  intro p e s m args below meth co H locs ls C hW hS hl
  exact W.objInit C.1 C.2.1 C.2.2.2.1 (C.2.2.2.2.1 _ hlk) (C.2.2.2.2.1 _ hin) (C.2.2.2.2.1 _ hco) rfl (hl.1.trans C.2.2.1.symm) rfl d hR (by show 2 * 0 + _ + _ ≤ _; omega) (kk p e s m args below meth co H locs ls C hW hS hl)
theorem v_new {ci : Nat} {σ' : Hp} (hs : nw σ ci 0 = σ') (hci : ci < 13) (hcl : Cond.classLink y.cls i (cC ci) ∈ gwT) (hins : Cond.instantiable (cC ci) (cN ci) ∈ gwT) (hini : Cond.initialized (cC ci) ∈ gwT) (hR : c + 1 ≤ R.cells ∧ k + cN ci ≤ R.slots) (hc : c + 1 = c') (hk : k + cN ci = k') (d : decode cc pc = .ok (.new i, 3)) (hq : pc + 3 = q) (kk : V G y cc nL ret R Z (σ', μ, o) c' k' q lv (.ref (oN σ) :: st)) : V G y cc nL ret R Z (σ, μ, o) c k pc lv st := by
  subst hs hc hk hq
  intro p e s m args below meth co H locs ls C hW hS hl
  have hts := C.2.2.2.2.1
  have hKn := C.2.2.2.2.2.2.1.1.1 ci _ (c_at hci)
  have hz : H.size = oN σ := hW.1
  refine W.newcK C.1 C.2.1 C.2.2.2.1 (hts _ hcl) (hts _ hins) (hts _ hini) rfl d hR.1 hR.2 hKn.2.1 hz fun H1 kC hkC e1 z1 o1 => ?_
  refine kk p e s m args below meth co H1 locs ls C (hW.newc ?_ (by rw [z1, hz]) (fun q hq => o1 q (by omega))) ⟨Nat.le_trans hS.1 (by omega), fun x h1 h2 => (o1 x (by have := hS.1; omega)).trans (hS.2.1 x h1 h2), hS.2.2⟩ hl
  have hkk : oK (nw σ ci 0) (oN σ) = ci := va_up_self _ _ _
  unfold oAt
  rw [hz, hkk, if_pos hci]
  refine (u_born (cY ci) hts (c_in hci) hKn hkC e1 (c_ty hci)).to fun j hj => ?_
  unfold oF
  rw [hkk, oI_nw, oR_nw, va_up_self, va_up_self]
  cases hty : cY ci j <;> simp [isI, defaultValue, va_rf]
  all_goals exact absurd hty (c_pl hci hj _ (by decide))
theorem v_newI {n : Int32} {N : Nat} {σ' : Hp} (hs : nw σ 13 N = σ') (har : Cond.arrayClass .int ∈ gwT) (hn : ¬ n < 0) (hN : n.toNatClampNeg = N) (hby : N * 4 ≤ 536870912) (hR : c + 1 ≤ R.cells ∧ k + N ≤ R.slots) (hc : c + 1 = c') (hk : k + N = k') (d : decode cc pc = .ok (.newarray .int, 2)) (hq : pc + 2 = q) (kk : V G y cc nL ret R Z (σ', μ, o) c' k' q lv (.ref (oN σ) :: st)) : V G y cc nL ret R Z (σ, μ, o) c k pc lv (.int n :: st) := by
  subst hs hc hk hq
  intro p e s m args below meth co H locs ls C hW hS hl
  have hz : H.size = oN σ := hW.1
  refine va_newaK (atype := .int) C.1 C.2.1 (C.2.2.2.2.1 _ har) rfl d rfl hn hN hby hR.1 hR.2 hz fun H1 cA e1 z1 o1 hAr hNm => ?_
  have hcA : cA = gC G 0 := Option.some.inj (hNm.symm.trans (C.2.2.2.2.2.2.1.1.2 0 _ rfl).2)
  subst hcA
  refine kk p e s m args below meth co H1 locs ls C (hW.newc ?_ (by rw [z1, hz]) (fun q hq => o1 q (by omega))) ⟨Nat.le_trans hS.1 (by omega), fun x h1 h2 => (o1 x (by have := hS.1; omega)).trans (hS.2.1 x h1 h2), hS.2.2⟩ hl
  have hkk : oK (nw σ 13 N) (oN σ) = 13 := va_up_self _ _ _
  unfold oAt
  rw [hz, hkk, if_neg (by decide), e1, oZ_nw, va_up_self]
  congr 2
  funext j
  unfold oV
  rw [hkk, if_pos (by decide), oI_nw, va_up_self]
  rfl
theorem v_newZ {n : Int32} {N : Nat} {σ' : Hp} (hs : nw σ 14 N = σ') (har : Cond.arrayClass .boolean ∈ gwT) (hn : ¬ n < 0) (hN : n.toNatClampNeg = N) (hby : N * 1 ≤ 536870912) (hR : c + 1 ≤ R.cells ∧ k + N ≤ R.slots) (hc : c + 1 = c') (hk : k + N = k') (d : decode cc pc = .ok (.newarray .boolean, 2)) (hq : pc + 2 = q) (kk : V G y cc nL ret R Z (σ', μ, o) c' k' q lv (.ref (oN σ) :: st)) : V G y cc nL ret R Z (σ, μ, o) c k pc lv (.int n :: st) := by
  subst hs hc hk hq
  intro p e s m args below meth co H locs ls C hW hS hl
  have hz : H.size = oN σ := hW.1
  refine va_newaK (atype := .boolean) C.1 C.2.1 (C.2.2.2.2.1 _ har) rfl d rfl hn hN hby hR.1 hR.2 hz fun H1 cA e1 z1 o1 hAr hNm => ?_
  have hcA : cA = gC G 1 := Option.some.inj (hNm.symm.trans (C.2.2.2.2.2.2.1.1.2 1 _ rfl).2)
  subst hcA
  refine kk p e s m args below meth co H1 locs ls C (hW.newc ?_ (by rw [z1, hz]) (fun q hq => o1 q (by omega))) ⟨Nat.le_trans hS.1 (by omega), fun x h1 h2 => (o1 x (by have := hS.1; omega)).trans (hS.2.1 x h1 h2), hS.2.2⟩ hl
  have hkk : oK (nw σ 14 N) (oN σ) = 14 := va_up_self _ _ _
  unfold oAt
  rw [hz, hkk, if_neg (by decide), e1, oZ_nw, va_up_self]
  congr 2
  funext j
  unfold oV
  rw [hkk, if_pos (by decide), oI_nw, va_up_self]
  rfl
theorem v_newR {n : Int32} {N kd : Nat} {C : String} {σ' : Hp} (hs : nw σ kd N = σ') (hcl : Cond.classLink y.cls i C ∈ gwT) (hC : C ∈ aoL) (h15 : 15 ≤ kd) (h20 : kd < 20) (ht : (tysG G)[kd - 13]? = some (gC G (kd - 13), .object C)) (hn : ¬ n < 0) (hN : n.toNatClampNeg = N) (hby : N * 4 ≤ 536870912) (hR : c + 1 ≤ R.cells ∧ k + N ≤ R.slots) (hc : c + 1 = c') (hk : k + N = k') (d : decode cc pc = .ok (.anewarray i, 3)) (hq : pc + 3 = q) (kk : V G y cc nL ret R Z (σ', μ, o) c' k' q lv (.ref (oN σ) :: st)) : V G y cc nL ret R Z (σ, μ, o) c k pc lv (.int n :: st) := by
  subst hs hc hk hq hN
  intro p e s m args below meth co H locs ls C hW hS hl
  have hz : H.size = oN σ := hW.1
  refine W.anew C.1 C.2.1 C.2.2.2.1 (C.2.2.2.2.1 _ hcl) (va_AO.use (C.2.2.2.2.2.2.1.2.2 _ hC)) rfl d rfl hn hby hR.1 hR.2 fun cA kA comp f1 f2 f3 f4 => ?_
  obtain ⟨kA', comp', -, -, -, u4⟩ := (C.2.2.2.2.2.2.1.1.2 _ _ ht).2
  have hcA : cA = gC G (kd - 13) := Option.some.inj (f1.symm.trans u4)
  subst hcA
  generalize hH1 : H.push ({ cls := gC G (kd - 13), slots := Array.replicate n.toNatClampNeg .null, vm := .none } : Cell) = H1
  have z1 : H1.size = H.size + 1 := by rw [← hH1, Array.size_push]
  have e1 : H1[H.size]? = some (arrV (gC G (kd - 13)) n.toNatClampNeg (fun _ => .null)) := by rw [← hH1, Array.getElem?_push_size, ← arrV_new]
  have o1 : ∀ q : Nat, q < H.size → H1[q]? = H[q]? := fun q hq => by rw [← hH1, Array.getElem?_push, if_neg (Nat.ne_of_lt hq)]
  rw [hz]
  refine kk p e s m args below meth co H1 locs ls C (hW.newc ?_ z1 o1) ⟨Nat.le_trans hS.1 (by omega), fun x h1 h2 => (o1 x (by have := hS.1; omega)).trans (hS.2.1 x h1 h2), hS.2.2⟩ hl
  have hkk : oK (nw σ kd n.toNatClampNeg) H.size = kd := by rw [hz]; exact va_up_self _ _ _
  unfold oAt
  rw [hkk, if_neg (by omega), e1, hz, oZ_nw, va_up_self]
  congr 2
  funext j
  unfold oV
  rw [← hz, hkk, if_neg (by omega), hz, oR_nw, va_up_self]
  rfl
theorem v_cp {a0 a : Nat} {sp dp n : Int32} {σ' : Hp} (hx : h_cp σ a0 a sp dp n = some σ') (hlk : Cond.methodLink y.cls i arraycopyName ∈ gwT) (hnat : Cond.native arraycopyName ∈ gwT) (hstat : Cond.static arraycopyName ∈ gwT) (hini : Cond.initialized "java/lang/System" ∈ gwT) (hR : 1 ≤ R.frames) (hL : (st.map fun v => v.category).sum + (nativeFrameWords "java/lang/System" "arraycopy" 5 + 11) ≤ R.locals) (d : decode cc pc = .ok (.invokestatic i, 3)) (hq : pc + 3 = q) (kk : V G y cc nL ret R Z (σ', μ, o) c k q lv st) : V G y cc nL ret R Z (σ, μ, o) c k pc lv (.int n :: .int dp :: .ref a :: .int sp :: .ref a0 :: st) := by
  subst hq
  intro p e s m args below meth co H locs ls C hW hS hl
  obtain ⟨⟨⟨hK0, hK1⟩, ⟨h1, h2, h3⟩, h4, h5⟩, rfl⟩ := o_i hx
  have hts := C.2.2.2.2.1
  have nn : ∀ z : Int32, ¬ z < 0 → z.toInt = (z.toNatClampNeg : Int) := by
    intro z hz
    have hz0 : (0 : Int) ≤ z.toInt := by
      have := Int32.not_lt.mp hz
      simpa using Int32.le_iff_toInt_le.mp this
    show z.toInt = ((z.toInt.toNat : Nat) : Int)
    omega
  intro T hT X
  have hv0 : oV σ a0 = fun j => .int (oI σ a0 j) := by funext j; unfold oV; rw [hK0, if_pos (by decide)]
  have hv1 : oV σ a = fun j => .int (oI σ a j) := by funext j; unfold oV; rw [hK1, if_pos (by decide)]
  have hc0 : H[a0]? = some (vp_cell (gC G 0) (oZ σ a0, .inl (oI σ a0))) := by rw [vp_cell_i, ← hv0]; exact hW.arr hK0 (by decide) (by decide)
  have hc1 : H[a]? = some (vp_cell (gC G 0) (oZ σ a, .inl (oI σ a))) := by rw [vp_cell_i, ← hv1]; exact hW.arr hK1 (by decide) (by decide)
  have hT0 := (C.2.2.2.2.2.2.1.1.2 0 _ rfl).1
  obtain ⟨-, k0, hk0, cm0, hkk0⟩ := hT0 (oZ σ a0) (fun j => .int (oI σ a0 j))
  obtain ⟨-, k1, hk1, cm1, hkk1⟩ := hT0 (oZ σ a) (fun j => .int (oI σ a j))
  obtain ⟨vm', X', step⟩ := X.arraycopy C.1 C.2.2.2.1 (hts _ hlk) (hts _ hnat) (hts _ hstat) (hts _ hini) (src := a0) (dst := a) (cs := vp_cell (gC G 0) (oZ σ a0, .inl (oI σ a0))) (cd := vp_cell (gC G 0) (oZ σ a, .inl (oI σ a))) (srcPos := sp) (destPos := dp) (n := n) (by rw [hT]; exact hc0) (by rw [hT]; exact hc1)
    (fun _ h => by cases h) (fun _ h => by cases h) (fun h => by cases h) (fun h => by cases h) hk0 hk1 hkk0 hkk1 (by simp [refKind]) h1 h2 h3
    (by rw [nn sp h1, nn n h3]; show ¬ _ > ((arrV (gC G 0) (oZ σ a0) (fun j => .int (oI σ a0 j))).slots.size : Int); rw [arrV_size]; omega)
    (by rw [nn dp h2, nn n h3]; show ¬ _ > ((arrV (gC G 0) (oZ σ a) (fun j => .int (oI σ a j))).slots.size : Int); rw [arrV_size]; omega)
    (fun vm₁ _ i hi => by
      have e : (vp_cell (gC G 0) (oZ σ a0, .inl (oI σ a0))).slots.getD (sp.toNatClampNeg + i) .null = .int (oI σ a0 (sp.toNatClampNeg + i)) := by
        show (arrV (gC G 0) (oZ σ a0) (fun j => .int (oI σ a0 j))).slots.getD _ _ = _
        rw [Array.getD_eq_getD_getElem?, arrV_read _ _ (by omega)]
        rfl
      refine ⟨?_, ?_⟩
      · rw [e]
        rfl
      · rw [e]
        exact trivial)
    (g := F0 m pc ls (.int n :: .int dp :: .ref a :: .int sp :: .ref a0 :: st)) rfl (by rw [C.2.2.1]; exact hl.1) (rest := st) rfl (by rw [C.2.1]; exact d) hR (by show 2 * 0 + _ + _ ≤ _; omega)
  have e1 : copied (vp_cell (gC G 0) (oZ σ a0, .inl (oI σ a0))) (vp_cell (gC G 0) (oZ σ a, .inl (oI σ a))) sp dp n = vp_cell (gC G 0) (oZ σ a, .inl (va_cpy (oI σ a0) (oI σ a) sp.toNatClampNeg dp.toNatClampNeg n.toNatClampNeg)) := va_copied (fun z => .int z) (gC G 0) (gC G 0) (oI σ a0) (oI σ a) h4
  rw [e1] at X' step
  generalize hCell : vp_cell (gC G 0) (oZ σ a, .inl (va_cpy (oI σ a0) (oI σ a) sp.toNatClampNeg dp.toNatClampNeg n.toNatClampNeg)) = cell9 at X' step
  have hlt : a < H.size := (Array.getElem?_eq_some_iff.mp hc1).1
  have hheap : ((T.setVm vm').setCell a cell9).heap = H.setIfInBounds a cell9 := by rw [← hT]; rfl
  have oq : ∀ q : Nat, q ≠ a → (H.setIfInBounds a cell9)[q]? = H[q]? := fun q hq => by simp [Array.getElem?_setIfInBounds, Ne.symm hq]
  have hAa : gA G a := (hW.2.1 a (by show oK σ a ≠ 99; omega)).1
  have hz : (H.setIfInBounds a cell9).size = H.size := by simp
  obtain ⟨t, a1, b1⟩ := kk p e s m args below meth co (H.setIfInBounds a cell9) _ ls C (hW.up (σ' := sC σ a0 a sp.toNatClampNeg dp.toNatClampNeg n.toNatClampNeg) rfl rfl rfl a (by omega) (fun b hb => ⟨va_up_ne _ _ hb, rfl⟩) (by
      have hK2 : oK (sC σ a0 a sp.toNatClampNeg dp.toNatClampNeg n.toNatClampNeg) a = 13 := hK1
      unfold oAt
      rw [hK2, if_neg (by decide)]
      have hg : (H.setIfInBounds a cell9)[a]? = some cell9 := by simp [Array.getElem?_setIfInBounds, hlt]
      rw [hg, ← hCell, vp_cell_i]
      congr 2
      funext j
      unfold oV
      rw [hK2, if_pos (by decide), oI_sC, va_up_self]) hz oq) ⟨by rw [hz]; exact hS.1, fun q g1 g2 => by
      rw [oq q (fun e => g2 (by rw [e]; exact hAa))]
      exact hS.2.1 q g1 g2, fun q hq => by
      rcases List.mem_append.mp hq with h | h
      · exact hS.2.2 q h
      · obtain ⟨z, -, hz⟩ := List.mem_map.mp h
        rw [← hz]
        exact hAa⟩ hl _ hheap X'
  exact ⟨t, step t a1, b1⟩
end VCALL
end
