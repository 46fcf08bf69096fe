-- ===== PART A: goes FIRST, ahead of the names: the tables' words, and 'selects' of the private methods out of them =====
/-- a private method of a class that the tables say can be made, by its rows of tables_1 -/
def lw_okq (q : MethodName × Nat) : Prop := (q.1.cls ≠ "java/lang/invoke/MethodHandle" ∧ q.1.cls ≠ "java/lang/invoke/VarHandle") ∧ Cond.instantiable q.1.cls q.2 ∈ tables_1 ∧ Cond.privateMethod q.1 ∈ tables_1 ∧ Cond.instanceMethod q.1 ∈ tables_1
set_option maxRecDepth 20000 in
theorem lw_p0 : lw_okq (⟨"EchoFair$Configuration", "takeSeason", "()Z"⟩, 3) := ⟨⟨by decide +kernel, by decide +kernel⟩, List.mem_of_getElem? (i := 343) rfl, List.mem_of_getElem? (i := 450) rfl, List.mem_of_getElem? (i := 451) rfl⟩
set_option maxRecDepth 20000 in
theorem lw_p1 : lw_okq (⟨"EchoFair$Configuration", "takeFog", "()Z"⟩, 3) := ⟨⟨by decide +kernel, by decide +kernel⟩, List.mem_of_getElem? (i := 343) rfl, List.mem_of_getElem? (i := 492) rfl, List.mem_of_getElem? (i := 493) rfl⟩
set_option maxRecDepth 20000 in
theorem lw_p2 : lw_okq (⟨"EchoFair$Configuration", "isComplete", "()Z"⟩, 3) := ⟨⟨by decide +kernel, by decide +kernel⟩, List.mem_of_getElem? (i := 343) rfl, List.mem_of_getElem? (i := 504) rfl, List.mem_of_getElem? (i := 505) rfl⟩
set_option maxRecDepth 20000 in
theorem lw_p3 : lw_okq (⟨"EchoFair$Configuration", "takeStatement", "()Z"⟩, 3) := ⟨⟨by decide +kernel, by decide +kernel⟩, List.mem_of_getElem? (i := 343) rfl, List.mem_of_getElem? (i := 508) rfl, List.mem_of_getElem? (i := 509) rfl⟩
set_option maxRecDepth 20000 in
theorem lw_p4 : lw_okq (⟨"EchoFair$Configuration", "takeNewEcho", "()Z"⟩, 3) := ⟨⟨by decide +kernel, by decide +kernel⟩, List.mem_of_getElem? (i := 343) rfl, List.mem_of_getElem? (i := 514) rfl, List.mem_of_getElem? (i := 515) rfl⟩
set_option maxRecDepth 20000 in
theorem lw_p5 : lw_okq (⟨"EchoFair$Tokens", "isName", "()Z"⟩, 8) := ⟨⟨by decide +kernel, by decide +kernel⟩, List.mem_of_getElem? (i := 306) rfl, List.mem_of_getElem? (i := 522) rfl, List.mem_of_getElem? (i := 523) rfl⟩
set_option maxRecDepth 20000 in
theorem lw_p6 : lw_okq (⟨"EchoFair$Configuration", "takeNewValley", "()Z"⟩, 3) := ⟨⟨by decide +kernel, by decide +kernel⟩, List.mem_of_getElem? (i := 343) rfl, List.mem_of_getElem? (i := 544) rfl, List.mem_of_getElem? (i := 545) rfl⟩
set_option maxRecDepth 20000 in
theorem lw_p7 : lw_okq (⟨"EchoFair$Configuration", "takeTest", "()Z"⟩, 3) := ⟨⟨by decide +kernel, by decide +kernel⟩, List.mem_of_getElem? (i := 343) rfl, List.mem_of_getElem? (i := 557) rfl, List.mem_of_getElem? (i := 558) rfl⟩
set_option maxRecDepth 20000 in
theorem lw_p8 : lw_okq (⟨"EchoFair", "adoptDraft", "()V"⟩, 15) := ⟨⟨by decide +kernel, by decide +kernel⟩, List.mem_of_getElem? (i := 26) rfl, List.mem_of_getElem? (i := 575) rfl, List.mem_of_getElem? (i := 576) rfl⟩
set_option maxRecDepth 20000 in
theorem lw_p9 : lw_okq (⟨"EchoFair$Matching", "enrol", "(LEchoFair$World;)V"⟩, 6) := ⟨⟨by decide +kernel, by decide +kernel⟩, List.mem_of_getElem? (i := 281) rfl, List.mem_of_getElem? (i := 793) rfl, List.mem_of_getElem? (i := 794) rfl⟩
set_option maxRecDepth 20000 in
theorem lw_p10 : lw_okq (⟨"EchoFair$Matching", "enqueue", "(I)V"⟩, 6) := ⟨⟨by decide +kernel, by decide +kernel⟩, List.mem_of_getElem? (i := 281) rfl, List.mem_of_getElem? (i := 797) rfl, List.mem_of_getElem? (i := 798) rfl⟩
set_option maxRecDepth 20000 in
theorem lw_p11 : lw_okq (⟨"EchoFair$Matching", "weigh", "(LEchoFair$World;)V"⟩, 6) := ⟨⟨by decide +kernel, by decide +kernel⟩, List.mem_of_getElem? (i := 281) rfl, List.mem_of_getElem? (i := 801) rfl, List.mem_of_getElem? (i := 802) rfl⟩
set_option maxRecDepth 20000 in
theorem lw_p12 : lw_okq (⟨"EchoFair$Matching", "favourite", "(LEchoFair$World;I)I"⟩, 6) := ⟨⟨by decide +kernel, by decide +kernel⟩, List.mem_of_getElem? (i := 281) rfl, List.mem_of_getElem? (i := 807) rfl, List.mem_of_getElem? (i := 808) rfl⟩
set_option maxRecDepth 20000 in
theorem lw_p13 : lw_okq (⟨"EchoFair$Matching", "apply", "(LEchoFair$World;II)V"⟩, 6) := ⟨⟨by decide +kernel, by decide +kernel⟩, List.mem_of_getElem? (i := 281) rfl, List.mem_of_getElem? (i := 812) rfl, List.mem_of_getElem? (i := 813) rfl⟩
set_option maxRecDepth 20000 in
theorem lw_p14 : lw_okq (⟨"EchoFair$Matching", "leastKept", "(LEchoFair$World;I)I"⟩, 6) := ⟨⟨by decide +kernel, by decide +kernel⟩, List.mem_of_getElem? (i := 281) rfl, List.mem_of_getElem? (i := 816) rfl, List.mem_of_getElem? (i := 817) rfl⟩
set_option maxRecDepth 20000 in
theorem lw_p15 : lw_okq (⟨"EchoFair$Matching", "prefers", "(III)Z"⟩, 6) := ⟨⟨by decide +kernel, by decide +kernel⟩, List.mem_of_getElem? (i := 281) rfl, List.mem_of_getElem? (i := 820) rfl, List.mem_of_getElem? (i := 821) rfl⟩
def lw_privs_1 : List (MethodName × Nat) := [(⟨"EchoFair$Configuration", "takeSeason", "()Z"⟩, 3), (⟨"EchoFair$Configuration", "takeFog", "()Z"⟩, 3), (⟨"EchoFair$Configuration", "isComplete", "()Z"⟩, 3), (⟨"EchoFair$Configuration", "takeStatement", "()Z"⟩, 3), (⟨"EchoFair$Configuration", "takeNewEcho", "()Z"⟩, 3), (⟨"EchoFair$Tokens", "isName", "()Z"⟩, 8), (⟨"EchoFair$Configuration", "takeNewValley", "()Z"⟩, 3), (⟨"EchoFair$Configuration", "takeTest", "()Z"⟩, 3), (⟨"EchoFair", "adoptDraft", "()V"⟩, 15), (⟨"EchoFair$Matching", "enrol", "(LEchoFair$World;)V"⟩, 6), (⟨"EchoFair$Matching", "enqueue", "(I)V"⟩, 6), (⟨"EchoFair$Matching", "weigh", "(LEchoFair$World;)V"⟩, 6), (⟨"EchoFair$Matching", "favourite", "(LEchoFair$World;I)I"⟩, 6), (⟨"EchoFair$Matching", "apply", "(LEchoFair$World;II)V"⟩, 6), (⟨"EchoFair$Matching", "leastKept", "(LEchoFair$World;I)I"⟩, 6), (⟨"EchoFair$Matching", "prefers", "(III)Z"⟩, 6)]
theorem lw_r1 : ∀ q ∈ lw_privs_1, lw_okq q := List.forall_mem_cons.mpr ⟨lw_p0, List.forall_mem_cons.mpr ⟨lw_p1, List.forall_mem_cons.mpr ⟨lw_p2, List.forall_mem_cons.mpr ⟨lw_p3, List.forall_mem_cons.mpr ⟨lw_p4, List.forall_mem_cons.mpr ⟨lw_p5, List.forall_mem_cons.mpr ⟨lw_p6, List.forall_mem_cons.mpr ⟨lw_p7, List.forall_mem_cons.mpr ⟨lw_p8, List.forall_mem_cons.mpr ⟨lw_p9, List.forall_mem_cons.mpr ⟨lw_p10, List.forall_mem_cons.mpr ⟨lw_p11, List.forall_mem_cons.mpr ⟨lw_p12, List.forall_mem_cons.mpr ⟨lw_p13, List.forall_mem_cons.mpr ⟨lw_p14, List.forall_mem_cons.mpr ⟨lw_p15, fun _ h => absurd h List.not_mem_nil⟩⟩⟩⟩⟩⟩⟩⟩⟩⟩⟩⟩⟩⟩⟩⟩
set_option maxRecDepth 20000 in
theorem lw_p16 : lw_okq (⟨"EchoFair$Matching", "sign", "(LEchoFair$World;)I"⟩, 6) := ⟨⟨by decide +kernel, by decide +kernel⟩, List.mem_of_getElem? (i := 281) rfl, List.mem_of_getElem? (i := 824) rfl, List.mem_of_getElem? (i := 825) rfl⟩
set_option maxRecDepth 20000 in
theorem lw_p17 : lw_okq (⟨"EchoFair", "writeContracts", "(LEchoFair$Valley;)V"⟩, 15) := ⟨⟨by decide +kernel, by decide +kernel⟩, List.mem_of_getElem? (i := 26) rfl, List.mem_of_getElem? (i := 844) rfl, List.mem_of_getElem? (i := 845) rfl⟩
set_option maxRecDepth 20000 in
theorem lw_p18 : lw_okq (⟨"java/lang/Throwable", "fillInStackTrace", "(I)Ljava/lang/Throwable;"⟩, 6) := ⟨⟨by decide +kernel, by decide +kernel⟩, List.mem_of_getElem? (i := 903) rfl, List.mem_of_getElem? (i := 901) rfl, List.mem_of_getElem? (i := 902) rfl⟩
set_option maxRecDepth 20000 in
theorem lw_p19 : lw_okq (⟨"EchoFair", "noteErrors", "()V"⟩, 15) := ⟨⟨by decide +kernel, by decide +kernel⟩, List.mem_of_getElem? (i := 26) rfl, List.mem_of_getElem? (i := 967) rfl, List.mem_of_getElem? (i := 968) rfl⟩
set_option maxRecDepth 20000 in
theorem lw_p20 : lw_okq (⟨"EchoFair$Commands", "verbRead", "()I"⟩, 5) := ⟨⟨by decide +kernel, by decide +kernel⟩, List.mem_of_getElem? (i := 359) rfl, List.mem_of_getElem? (i := 985) rfl, List.mem_of_getElem? (i := 986) rfl⟩
set_option maxRecDepth 20000 in
theorem lw_p21 : lw_okq (⟨"EchoFair$Commands", "takeParameters", "(ILEchoFair$World;)Z"⟩, 5) := ⟨⟨by decide +kernel, by decide +kernel⟩, List.mem_of_getElem? (i := 359) rfl, List.mem_of_getElem? (i := 998) rfl, List.mem_of_getElem? (i := 999) rfl⟩
set_option maxRecDepth 20000 in
theorem lw_p22 : lw_okq (⟨"EchoFair$Commands", "takeValleyAndMore", "(ILEchoFair$World;)Z"⟩, 5) := ⟨⟨by decide +kernel, by decide +kernel⟩, List.mem_of_getElem? (i := 359) rfl, List.mem_of_getElem? (i := 1004) rfl, List.mem_of_getElem? (i := 1005) rfl⟩
set_option maxRecDepth 20000 in
theorem lw_p23 : lw_okq (⟨"EchoFair", "perform", "(I)Z"⟩, 15) := ⟨⟨by decide +kernel, by decide +kernel⟩, List.mem_of_getElem? (i := 26) rfl, List.mem_of_getElem? (i := 1011) rfl, List.mem_of_getElem? (i := 1012) rfl⟩
set_option maxRecDepth 20000 in
theorem lw_p24 : lw_okq (⟨"EchoFair", "letDaysPass", "(LEchoFair$World;I)I"⟩, 15) := ⟨⟨by decide +kernel, by decide +kernel⟩, List.mem_of_getElem? (i := 26) rfl, List.mem_of_getElem? (i := 1015) rfl, List.mem_of_getElem? (i := 1016) rfl⟩
set_option maxRecDepth 20000 in
theorem lw_p25 : lw_okq (⟨"EchoFair$World", "hearReplies", "(LEchoFair$Valley;)V"⟩, 11) := ⟨⟨by decide +kernel, by decide +kernel⟩, List.mem_of_getElem? (i := 74) rfl, List.mem_of_getElem? (i := 1039) rfl, List.mem_of_getElem? (i := 1040) rfl⟩
set_option maxRecDepth 20000 in
theorem lw_p26 : lw_okq (⟨"EchoFair$World", "payStaff", "(LEchoFair$Valley;)V"⟩, 11) := ⟨⟨by decide +kernel, by decide +kernel⟩, List.mem_of_getElem? (i := 74) rfl, List.mem_of_getElem? (i := 1043) rfl, List.mem_of_getElem? (i := 1044) rfl⟩
set_option maxRecDepth 20000 in
theorem lw_p27 : lw_okq (⟨"EchoFair", "echoAt", "(I)LEchoFair$Echo;"⟩, 15) := ⟨⟨by decide +kernel, by decide +kernel⟩, List.mem_of_getElem? (i := 26) rfl, List.mem_of_getElem? (i := 1101) rfl, List.mem_of_getElem? (i := 1102) rfl⟩
set_option maxRecDepth 20000 in
theorem lw_p28 : lw_okq (⟨"EchoFair", "requireEcho", "(I)V"⟩, 15) := ⟨⟨by decide +kernel, by decide +kernel⟩, List.mem_of_getElem? (i := 26) rfl, List.mem_of_getElem? (i := 1105) rfl, List.mem_of_getElem? (i := 1106) rfl⟩
set_option maxRecDepth 20000 in
theorem lw_p29 : lw_okq (⟨"EchoFair", "valleyAt", "(I)LEchoFair$Valley;"⟩, 15) := ⟨⟨by decide +kernel, by decide +kernel⟩, List.mem_of_getElem? (i := 26) rfl, List.mem_of_getElem? (i := 1174) rfl, List.mem_of_getElem? (i := 1175) rfl⟩
set_option maxRecDepth 20000 in
theorem lw_p30 : lw_okq (⟨"EchoFair", "requireValley", "(I)V"⟩, 15) := ⟨⟨by decide +kernel, by decide +kernel⟩, List.mem_of_getElem? (i := 26) rfl, List.mem_of_getElem? (i := 1178) rfl, List.mem_of_getElem? (i := 1179) rfl⟩
set_option maxRecDepth 20000 in
theorem lw_p31 : lw_okq (⟨"EchoFair", "requirePair", "(II)V"⟩, 15) := ⟨⟨by decide +kernel, by decide +kernel⟩, List.mem_of_getElem? (i := 26) rfl, List.mem_of_getElem? (i := 1225) rfl, List.mem_of_getElem? (i := 1226) rfl⟩
def lw_privs_2 : List (MethodName × Nat) := [(⟨"EchoFair$Matching", "sign", "(LEchoFair$World;)I"⟩, 6), (⟨"EchoFair", "writeContracts", "(LEchoFair$Valley;)V"⟩, 15), (⟨"java/lang/Throwable", "fillInStackTrace", "(I)Ljava/lang/Throwable;"⟩, 6), (⟨"EchoFair", "noteErrors", "()V"⟩, 15), (⟨"EchoFair$Commands", "verbRead", "()I"⟩, 5), (⟨"EchoFair$Commands", "takeParameters", "(ILEchoFair$World;)Z"⟩, 5), (⟨"EchoFair$Commands", "takeValleyAndMore", "(ILEchoFair$World;)Z"⟩, 5), (⟨"EchoFair", "perform", "(I)Z"⟩, 15), (⟨"EchoFair", "letDaysPass", "(LEchoFair$World;I)I"⟩, 15), (⟨"EchoFair$World", "hearReplies", "(LEchoFair$Valley;)V"⟩, 11), (⟨"EchoFair$World", "payStaff", "(LEchoFair$Valley;)V"⟩, 11), (⟨"EchoFair", "echoAt", "(I)LEchoFair$Echo;"⟩, 15), (⟨"EchoFair", "requireEcho", "(I)V"⟩, 15), (⟨"EchoFair", "valleyAt", "(I)LEchoFair$Valley;"⟩, 15), (⟨"EchoFair", "requireValley", "(I)V"⟩, 15), (⟨"EchoFair", "requirePair", "(II)V"⟩, 15)]
theorem lw_r2 : ∀ q ∈ lw_privs_2, lw_okq q := List.forall_mem_cons.mpr ⟨lw_p16, List.forall_mem_cons.mpr ⟨lw_p17, List.forall_mem_cons.mpr ⟨lw_p18, List.forall_mem_cons.mpr ⟨lw_p19, List.forall_mem_cons.mpr ⟨lw_p20, List.forall_mem_cons.mpr ⟨lw_p21, List.forall_mem_cons.mpr ⟨lw_p22, List.forall_mem_cons.mpr ⟨lw_p23, List.forall_mem_cons.mpr ⟨lw_p24, List.forall_mem_cons.mpr ⟨lw_p25, List.forall_mem_cons.mpr ⟨lw_p26, List.forall_mem_cons.mpr ⟨lw_p27, List.forall_mem_cons.mpr ⟨lw_p28, List.forall_mem_cons.mpr ⟨lw_p29, List.forall_mem_cons.mpr ⟨lw_p30, List.forall_mem_cons.mpr ⟨lw_p31, fun _ h => absurd h List.not_mem_nil⟩⟩⟩⟩⟩⟩⟩⟩⟩⟩⟩⟩⟩⟩⟩⟩
set_option maxRecDepth 20000 in
theorem lw_p32 : lw_okq (⟨"EchoFair", "simulate", "(I)V"⟩, 15) := ⟨⟨by decide +kernel, by decide +kernel⟩, List.mem_of_getElem? (i := 26) rfl, List.mem_of_getElem? (i := 1283) rfl, List.mem_of_getElem? (i := 1284) rfl⟩
set_option maxRecDepth 20000 in
theorem lw_p33 : lw_okq (⟨"EchoFairModel", "startsText", "()V"⟩, 28) := ⟨⟨by decide +kernel, by decide +kernel⟩, List.mem_of_getElem? (i := 1412) rfl, List.mem_of_getElem? (i := 1428) rfl, List.mem_of_getElem? (i := 1429) rfl⟩
set_option maxRecDepth 20000 in
theorem lw_p34 : lw_okq (⟨"EchoFairModel", "keyword", "(Ljava/lang/String;)V"⟩, 28) := ⟨⟨by decide +kernel, by decide +kernel⟩, List.mem_of_getElem? (i := 1412) rfl, List.mem_of_getElem? (i := 1433) rfl, List.mem_of_getElem? (i := 1434) rfl⟩
set_option maxRecDepth 20000 in
theorem lw_p35 : lw_okq (⟨"EchoFairModel", "sees", "(Ljava/lang/String;)Z"⟩, 28) := ⟨⟨by decide +kernel, by decide +kernel⟩, List.mem_of_getElem? (i := 1412) rfl, List.mem_of_getElem? (i := 1437) rfl, List.mem_of_getElem? (i := 1438) rfl⟩
set_option maxRecDepth 20000 in
theorem lw_p36 : lw_okq (⟨"EchoFairModel", "next", "()I"⟩, 28) := ⟨⟨by decide +kernel, by decide +kernel⟩, List.mem_of_getElem? (i := 1412) rfl, List.mem_of_getElem? (i := 1441) rfl, List.mem_of_getElem? (i := 1442) rfl⟩
set_option maxRecDepth 20000 in
theorem lw_p37 : lw_okq (⟨"EchoFairModel", "byteAt", "(I)I"⟩, 28) := ⟨⟨by decide +kernel, by decide +kernel⟩, List.mem_of_getElem? (i := 1412) rfl, List.mem_of_getElem? (i := 1445) rfl, List.mem_of_getElem? (i := 1446) rfl⟩
set_option maxRecDepth 20000 in
theorem lw_p38 : lw_okq (⟨"EchoFairModel", "must", "(ZI)V"⟩, 28) := ⟨⟨by decide +kernel, by decide +kernel⟩, List.mem_of_getElem? (i := 1412) rfl, List.mem_of_getElem? (i := 1454) rfl, List.mem_of_getElem? (i := 1455) rfl⟩
set_option maxRecDepth 20000 in
theorem lw_p39 : lw_okq (⟨"EchoFairModel", "goesPast", "()V"⟩, 28) := ⟨⟨by decide +kernel, by decide +kernel⟩, List.mem_of_getElem? (i := 1412) rfl, List.mem_of_getElem? (i := 1458) rfl, List.mem_of_getElem? (i := 1459) rfl⟩
set_option maxRecDepth 20000 in
theorem lw_p40 : lw_okq (⟨"EchoFairModel", "number", "(II)I"⟩, 28) := ⟨⟨by decide +kernel, by decide +kernel⟩, List.mem_of_getElem? (i := 1412) rfl, List.mem_of_getElem? (i := 1462) rfl, List.mem_of_getElem? (i := 1463) rfl⟩
set_option maxRecDepth 20000 in
theorem lw_p41 : lw_okq (⟨"EchoFairModel", "semicolon", "()V"⟩, 28) := ⟨⟨by decide +kernel, by decide +kernel⟩, List.mem_of_getElem? (i := 1412) rfl, List.mem_of_getElem? (i := 1468) rfl, List.mem_of_getElem? (i := 1469) rfl⟩
set_option maxRecDepth 20000 in
theorem lw_p42 : lw_okq (⟨"EchoFairModel", "fogLine", "()V"⟩, 28) := ⟨⟨by decide +kernel, by decide +kernel⟩, List.mem_of_getElem? (i := 1412) rfl, List.mem_of_getElem? (i := 1472) rfl, List.mem_of_getElem? (i := 1473) rfl⟩
set_option maxRecDepth 20000 in
theorem lw_p43 : lw_okq (⟨"EchoFairModel", "isNumberNext", "()Z"⟩, 28) := ⟨⟨by decide +kernel, by decide +kernel⟩, List.mem_of_getElem? (i := 1412) rfl, List.mem_of_getElem? (i := 1477) rfl, List.mem_of_getElem? (i := 1478) rfl⟩
set_option maxRecDepth 20000 in
theorem lw_p44 : lw_okq (⟨"EchoFairModel", "statement", "()V"⟩, 28) := ⟨⟨by decide +kernel, by decide +kernel⟩, List.mem_of_getElem? (i := 1412) rfl, List.mem_of_getElem? (i := 1481) rfl, List.mem_of_getElem? (i := 1482) rfl⟩
set_option maxRecDepth 20000 in
theorem lw_p45 : lw_okq (⟨"EchoFairModel", "echoLine", "()V"⟩, 28) := ⟨⟨by decide +kernel, by decide +kernel⟩, List.mem_of_getElem? (i := 1412) rfl, List.mem_of_getElem? (i := 1486) rfl, List.mem_of_getElem? (i := 1487) rfl⟩
set_option maxRecDepth 20000 in
theorem lw_p46 : lw_okq (⟨"EchoFairModel", "newName", "(IZ)V"⟩, 28) := ⟨⟨by decide +kernel, by decide +kernel⟩, List.mem_of_getElem? (i := 1412) rfl, List.mem_of_getElem? (i := 1493) rfl, List.mem_of_getElem? (i := 1494) rfl⟩
set_option maxRecDepth 20000 in
theorem lw_p47 : lw_okq (⟨"EchoFairModel", "isName", "()Z"⟩, 28) := ⟨⟨by decide +kernel, by decide +kernel⟩, List.mem_of_getElem? (i := 1412) rfl, List.mem_of_getElem? (i := 1497) rfl, List.mem_of_getElem? (i := 1498) rfl⟩
def lw_privs_3 : List (MethodName × Nat) := [(⟨"EchoFair", "simulate", "(I)V"⟩, 15), (⟨"EchoFairModel", "startsText", "()V"⟩, 28), (⟨"EchoFairModel", "keyword", "(Ljava/lang/String;)V"⟩, 28), (⟨"EchoFairModel", "sees", "(Ljava/lang/String;)Z"⟩, 28), (⟨"EchoFairModel", "next", "()I"⟩, 28), (⟨"EchoFairModel", "byteAt", "(I)I"⟩, 28), (⟨"EchoFairModel", "must", "(ZI)V"⟩, 28), (⟨"EchoFairModel", "goesPast", "()V"⟩, 28), (⟨"EchoFairModel", "number", "(II)I"⟩, 28), (⟨"EchoFairModel", "semicolon", "()V"⟩, 28), (⟨"EchoFairModel", "fogLine", "()V"⟩, 28), (⟨"EchoFairModel", "isNumberNext", "()Z"⟩, 28), (⟨"EchoFairModel", "statement", "()V"⟩, 28), (⟨"EchoFairModel", "echoLine", "()V"⟩, 28), (⟨"EchoFairModel", "newName", "(IZ)V"⟩, 28), (⟨"EchoFairModel", "isName", "()Z"⟩, 28)]
theorem lw_r3 : ∀ q ∈ lw_privs_3, lw_okq q := List.forall_mem_cons.mpr ⟨lw_p32, List.forall_mem_cons.mpr ⟨lw_p33, List.forall_mem_cons.mpr ⟨lw_p34, List.forall_mem_cons.mpr ⟨lw_p35, List.forall_mem_cons.mpr ⟨lw_p36, List.forall_mem_cons.mpr ⟨lw_p37, List.forall_mem_cons.mpr ⟨lw_p38, List.forall_mem_cons.mpr ⟨lw_p39, List.forall_mem_cons.mpr ⟨lw_p40, List.forall_mem_cons.mpr ⟨lw_p41, List.forall_mem_cons.mpr ⟨lw_p42, List.forall_mem_cons.mpr ⟨lw_p43, List.forall_mem_cons.mpr ⟨lw_p44, List.forall_mem_cons.mpr ⟨lw_p45, List.forall_mem_cons.mpr ⟨lw_p46, List.forall_mem_cons.mpr ⟨lw_p47, fun _ h => absurd h List.not_mem_nil⟩⟩⟩⟩⟩⟩⟩⟩⟩⟩⟩⟩⟩⟩⟩⟩
set_option maxRecDepth 20000 in
theorem lw_p48 : lw_okq (⟨"EchoFairModel", "thingHere", "(Z)I"⟩, 28) := ⟨⟨by decide +kernel, by decide +kernel⟩, List.mem_of_getElem? (i := 1412) rfl, List.mem_of_getElem? (i := 1502) rfl, List.mem_of_getElem? (i := 1503) rfl⟩
set_option maxRecDepth 20000 in
theorem lw_p49 : lw_okq (⟨"EchoFairModel", "isNamed", "(I)Z"⟩, 28) := ⟨⟨by decide +kernel, by decide +kernel⟩, List.mem_of_getElem? (i := 1412) rfl, List.mem_of_getElem? (i := 1506) rfl, List.mem_of_getElem? (i := 1507) rfl⟩
set_option maxRecDepth 20000 in
theorem lw_p50 : lw_okq (⟨"EchoFairModel", "puts", "(III)V"⟩, 28) := ⟨⟨by decide +kernel, by decide +kernel⟩, List.mem_of_getElem? (i := 1412) rfl, List.mem_of_getElem? (i := 1510) rfl, List.mem_of_getElem? (i := 1511) rfl⟩
set_option maxRecDepth 20000 in
theorem lw_p51 : lw_okq (⟨"EchoFairModel", "valleyLine", "()V"⟩, 28) := ⟨⟨by decide +kernel, by decide +kernel⟩, List.mem_of_getElem? (i := 1412) rfl, List.mem_of_getElem? (i := 1515) rfl, List.mem_of_getElem? (i := 1516) rfl⟩
set_option maxRecDepth 20000 in
theorem lw_p52 : lw_okq (⟨"EchoFairModel", "putsValley", "(III)V"⟩, 28) := ⟨⟨by decide +kernel, by decide +kernel⟩, List.mem_of_getElem? (i := 1412) rfl, List.mem_of_getElem? (i := 1519) rfl, List.mem_of_getElem? (i := 1520) rfl⟩
set_option maxRecDepth 20000 in
theorem lw_p53 : lw_okq (⟨"EchoFairModel", "testedLine", "()V"⟩, 28) := ⟨⟨by decide +kernel, by decide +kernel⟩, List.mem_of_getElem? (i := 1412) rfl, List.mem_of_getElem? (i := 1524) rfl, List.mem_of_getElem? (i := 1525) rfl⟩
set_option maxRecDepth 20000 in
theorem lw_p54 : lw_okq (⟨"EchoFairModel", "mustBe", "(Z)I"⟩, 28) := ⟨⟨by decide +kernel, by decide +kernel⟩, List.mem_of_getElem? (i := 1412) rfl, List.mem_of_getElem? (i := 1528) rfl, List.mem_of_getElem? (i := 1529) rfl⟩
set_option maxRecDepth 20000 in
theorem lw_p55 : lw_okq (⟨"EchoFairModel", "endsText", "()Z"⟩, 28) := ⟨⟨by decide +kernel, by decide +kernel⟩, List.mem_of_getElem? (i := 1412) rfl, List.mem_of_getElem? (i := 1535) rfl, List.mem_of_getElem? (i := 1536) rfl⟩
set_option maxRecDepth 20000 in
theorem lw_p56 : lw_okq (⟨"EchoFairModel", "passes", "(Z)Z"⟩, 28) := ⟨⟨by decide +kernel, by decide +kernel⟩, List.mem_of_getElem? (i := 1412) rfl, List.mem_of_getElem? (i := 1539) rfl, List.mem_of_getElem? (i := 1540) rfl⟩
set_option maxRecDepth 20000 in
theorem lw_p57 : lw_okq (⟨"EchoFairModel", "four", "(I)V"⟩, 28) := ⟨⟨by decide +kernel, by decide +kernel⟩, List.mem_of_getElem? (i := 1412) rfl, List.mem_of_getElem? (i := 1637) rfl, List.mem_of_getElem? (i := 1638) rfl⟩
set_option maxRecDepth 20000 in
theorem lw_p58 : lw_okq (⟨"EchoFairModel", "readsOne", "()V"⟩, 28) := ⟨⟨by decide +kernel, by decide +kernel⟩, List.mem_of_getElem? (i := 1412) rfl, List.mem_of_getElem? (i := 1658) rfl, List.mem_of_getElem? (i := 1659) rfl⟩
set_option maxRecDepth 20000 in
theorem lw_p59 : lw_okq (⟨"EchoFairModel", "commandHere", "()I"⟩, 28) := ⟨⟨by decide +kernel, by decide +kernel⟩, List.mem_of_getElem? (i := 1412) rfl, List.mem_of_getElem? (i := 1662) rfl, List.mem_of_getElem? (i := 1663) rfl⟩
set_option maxRecDepth 20000 in
theorem lw_p60 : lw_okq (⟨"EchoFairModel", "otherCommand", "()I"⟩, 28) := ⟨⟨by decide +kernel, by decide +kernel⟩, List.mem_of_getElem? (i := 1412) rfl, List.mem_of_getElem? (i := 1668) rfl, List.mem_of_getElem? (i := 1669) rfl⟩
set_option maxRecDepth 20000 in
theorem lw_p61 : lw_okq (⟨"EchoFairModel", "partsOf", "(II)V"⟩, 28) := ⟨⟨by decide +kernel, by decide +kernel⟩, List.mem_of_getElem? (i := 1412) rfl, List.mem_of_getElem? (i := 1676) rfl, List.mem_of_getElem? (i := 1677) rfl⟩
set_option maxRecDepth 20000 in
theorem lw_p62 : lw_okq (⟨"EchoFairModel", "keeps", "([I)V"⟩, 28) := ⟨⟨by decide +kernel, by decide +kernel⟩, List.mem_of_getElem? (i := 1412) rfl, List.mem_of_getElem? (i := 1680) rfl, List.mem_of_getElem? (i := 1681) rfl⟩
set_option maxRecDepth 20000 in
theorem lw_p63 : lw_okq (⟨"EchoFairModel", "doesOne", "(I)Z"⟩, 28) := ⟨⟨by decide +kernel, by decide +kernel⟩, List.mem_of_getElem? (i := 1412) rfl, List.mem_of_getElem? (i := 1684) rfl, List.mem_of_getElem? (i := 1685) rfl⟩
def lw_privs_4 : List (MethodName × Nat) := [(⟨"EchoFairModel", "thingHere", "(Z)I"⟩, 28), (⟨"EchoFairModel", "isNamed", "(I)Z"⟩, 28), (⟨"EchoFairModel", "puts", "(III)V"⟩, 28), (⟨"EchoFairModel", "valleyLine", "()V"⟩, 28), (⟨"EchoFairModel", "putsValley", "(III)V"⟩, 28), (⟨"EchoFairModel", "testedLine", "()V"⟩, 28), (⟨"EchoFairModel", "mustBe", "(Z)I"⟩, 28), (⟨"EchoFairModel", "endsText", "()Z"⟩, 28), (⟨"EchoFairModel", "passes", "(Z)Z"⟩, 28), (⟨"EchoFairModel", "four", "(I)V"⟩, 28), (⟨"EchoFairModel", "readsOne", "()V"⟩, 28), (⟨"EchoFairModel", "commandHere", "()I"⟩, 28), (⟨"EchoFairModel", "otherCommand", "()I"⟩, 28), (⟨"EchoFairModel", "partsOf", "(II)V"⟩, 28), (⟨"EchoFairModel", "keeps", "([I)V"⟩, 28), (⟨"EchoFairModel", "doesOne", "(I)Z"⟩, 28)]
theorem lw_r4 : ∀ q ∈ lw_privs_4, lw_okq q := List.forall_mem_cons.mpr ⟨lw_p48, List.forall_mem_cons.mpr ⟨lw_p49, List.forall_mem_cons.mpr ⟨lw_p50, List.forall_mem_cons.mpr ⟨lw_p51, List.forall_mem_cons.mpr ⟨lw_p52, List.forall_mem_cons.mpr ⟨lw_p53, List.forall_mem_cons.mpr ⟨lw_p54, List.forall_mem_cons.mpr ⟨lw_p55, List.forall_mem_cons.mpr ⟨lw_p56, List.forall_mem_cons.mpr ⟨lw_p57, List.forall_mem_cons.mpr ⟨lw_p58, List.forall_mem_cons.mpr ⟨lw_p59, List.forall_mem_cons.mpr ⟨lw_p60, List.forall_mem_cons.mpr ⟨lw_p61, List.forall_mem_cons.mpr ⟨lw_p62, List.forall_mem_cons.mpr ⟨lw_p63, fun _ h => absurd h List.not_mem_nil⟩⟩⟩⟩⟩⟩⟩⟩⟩⟩⟩⟩⟩⟩⟩⟩
set_option maxRecDepth 20000 in
theorem lw_p64 : lw_okq (⟨"EchoFairModel", "passNow", "(I)Z"⟩, 28) := ⟨⟨by decide +kernel, by decide +kernel⟩, List.mem_of_getElem? (i := 1412) rfl, List.mem_of_getElem? (i := 1688) rfl, List.mem_of_getElem? (i := 1689) rfl⟩
set_option maxRecDepth 20000 in
theorem lw_p65 : lw_okq (⟨"EchoFairModel", "allLeft", "()I"⟩, 28) := ⟨⟨by decide +kernel, by decide +kernel⟩, List.mem_of_getElem? (i := 1412) rfl, List.mem_of_getElem? (i := 1692) rfl, List.mem_of_getElem? (i := 1693) rfl⟩
set_option maxRecDepth 20000 in
theorem lw_p66 : lw_okq (⟨"EchoFairModel", "of", "(II)I"⟩, 28) := ⟨⟨by decide +kernel, by decide +kernel⟩, List.mem_of_getElem? (i := 1412) rfl, List.mem_of_getElem? (i := 1696) rfl, List.mem_of_getElem? (i := 1697) rfl⟩
set_option maxRecDepth 20000 in
theorem lw_p67 : lw_okq (⟨"EchoFairModel", "goBy", "(I)V"⟩, 28) := ⟨⟨by decide +kernel, by decide +kernel⟩, List.mem_of_getElem? (i := 1412) rfl, List.mem_of_getElem? (i := 1700) rfl, List.mem_of_getElem? (i := 1701) rfl⟩
set_option maxRecDepth 20000 in
theorem lw_p68 : lw_okq (⟨"EchoFairModel", "dayOnce", "()V"⟩, 28) := ⟨⟨by decide +kernel, by decide +kernel⟩, List.mem_of_getElem? (i := 1412) rfl, List.mem_of_getElem? (i := 1704) rfl, List.mem_of_getElem? (i := 1705) rfl⟩
set_option maxRecDepth 20000 in
theorem lw_p69 : lw_okq (⟨"EchoFairModel", "beginsSeason", "()V"⟩, 28) := ⟨⟨by decide +kernel, by decide +kernel⟩, List.mem_of_getElem? (i := 1412) rfl, List.mem_of_getElem? (i := 1708) rfl, List.mem_of_getElem? (i := 1709) rfl⟩
set_option maxRecDepth 20000 in
theorem lw_p70 : lw_okq (⟨"EchoFairModel", "hasContract", "(I)Z"⟩, 28) := ⟨⟨by decide +kernel, by decide +kernel⟩, List.mem_of_getElem? (i := 1412) rfl, List.mem_of_getElem? (i := 1712) rfl, List.mem_of_getElem? (i := 1713) rfl⟩
set_option maxRecDepth 20000 in
theorem lw_p71 : lw_okq (⟨"EchoFairModel", "contractEnds", "(I)V"⟩, 28) := ⟨⟨by decide +kernel, by decide +kernel⟩, List.mem_of_getElem? (i := 1412) rfl, List.mem_of_getElem? (i := 1716) rfl, List.mem_of_getElem? (i := 1717) rfl⟩
set_option maxRecDepth 20000 in
theorem lw_p72 : lw_okq (⟨"EchoFairModel", "employer", "(I)I"⟩, 28) := ⟨⟨by decide +kernel, by decide +kernel⟩, List.mem_of_getElem? (i := 1412) rfl, List.mem_of_getElem? (i := 1720) rfl, List.mem_of_getElem? (i := 1721) rfl⟩
set_option maxRecDepth 20000 in
theorem lw_p73 : lw_okq (⟨"EchoFairModel", "ofValley", "(II)I"⟩, 28) := ⟨⟨by decide +kernel, by decide +kernel⟩, List.mem_of_getElem? (i := 1412) rfl, List.mem_of_getElem? (i := 1724) rfl, List.mem_of_getElem? (i := 1725) rfl⟩
set_option maxRecDepth 20000 in
theorem lw_p74 : lw_okq (⟨"EchoFairModel", "fairNow", "()V"⟩, 28) := ⟨⟨by decide +kernel, by decide +kernel⟩, List.mem_of_getElem? (i := 1412) rfl, List.mem_of_getElem? (i := 1728) rfl, List.mem_of_getElem? (i := 1729) rfl⟩
set_option maxRecDepth 20000 in
theorem lw_p75 : lw_okq (⟨"EchoFairModel", "startsFair", "()V"⟩, 28) := ⟨⟨by decide +kernel, by decide +kernel⟩, List.mem_of_getElem? (i := 1412) rfl, List.mem_of_getElem? (i := 1732) rfl, List.mem_of_getElem? (i := 1733) rfl⟩
set_option maxRecDepth 20000 in
theorem lw_p76 : lw_okq (⟨"EchoFairModel", "enqueues", "(I)V"⟩, 28) := ⟨⟨by decide +kernel, by decide +kernel⟩, List.mem_of_getElem? (i := 1412) rfl, List.mem_of_getElem? (i := 1736) rfl, List.mem_of_getElem? (i := 1737) rfl⟩
set_option maxRecDepth 20000 in
theorem lw_p77 : lw_okq (⟨"EchoFairModel", "dequeues", "()I"⟩, 28) := ⟨⟨by decide +kernel, by decide +kernel⟩, List.mem_of_getElem? (i := 1412) rfl, List.mem_of_getElem? (i := 1740) rfl, List.mem_of_getElem? (i := 1741) rfl⟩
set_option maxRecDepth 20000 in
theorem lw_p78 : lw_okq (⟨"EchoFairModel", "nextValley", "(I)I"⟩, 28) := ⟨⟨by decide +kernel, by decide +kernel⟩, List.mem_of_getElem? (i := 1412) rfl, List.mem_of_getElem? (i := 1744) rfl, List.mem_of_getElem? (i := 1745) rfl⟩
set_option maxRecDepth 20000 in
theorem lw_p79 : lw_okq (⟨"EchoFairModel", "isAcceptable", "(II)Z"⟩, 28) := ⟨⟨by decide +kernel, by decide +kernel⟩, List.mem_of_getElem? (i := 1412) rfl, List.mem_of_getElem? (i := 1748) rfl, List.mem_of_getElem? (i := 1749) rfl⟩
def lw_privs_5 : List (MethodName × Nat) := [(⟨"EchoFairModel", "passNow", "(I)Z"⟩, 28), (⟨"EchoFairModel", "allLeft", "()I"⟩, 28), (⟨"EchoFairModel", "of", "(II)I"⟩, 28), (⟨"EchoFairModel", "goBy", "(I)V"⟩, 28), (⟨"EchoFairModel", "dayOnce", "()V"⟩, 28), (⟨"EchoFairModel", "beginsSeason", "()V"⟩, 28), (⟨"EchoFairModel", "hasContract", "(I)Z"⟩, 28), (⟨"EchoFairModel", "contractEnds", "(I)V"⟩, 28), (⟨"EchoFairModel", "employer", "(I)I"⟩, 28), (⟨"EchoFairModel", "ofValley", "(II)I"⟩, 28), (⟨"EchoFairModel", "fairNow", "()V"⟩, 28), (⟨"EchoFairModel", "startsFair", "()V"⟩, 28), (⟨"EchoFairModel", "enqueues", "(I)V"⟩, 28), (⟨"EchoFairModel", "dequeues", "()I"⟩, 28), (⟨"EchoFairModel", "nextValley", "(I)I"⟩, 28), (⟨"EchoFairModel", "isAcceptable", "(II)Z"⟩, 28)]
theorem lw_r5 : ∀ q ∈ lw_privs_5, lw_okq q := List.forall_mem_cons.mpr ⟨lw_p64, List.forall_mem_cons.mpr ⟨lw_p65, List.forall_mem_cons.mpr ⟨lw_p66, List.forall_mem_cons.mpr ⟨lw_p67, List.forall_mem_cons.mpr ⟨lw_p68, List.forall_mem_cons.mpr ⟨lw_p69, List.forall_mem_cons.mpr ⟨lw_p70, List.forall_mem_cons.mpr ⟨lw_p71, List.forall_mem_cons.mpr ⟨lw_p72, List.forall_mem_cons.mpr ⟨lw_p73, List.forall_mem_cons.mpr ⟨lw_p74, List.forall_mem_cons.mpr ⟨lw_p75, List.forall_mem_cons.mpr ⟨lw_p76, List.forall_mem_cons.mpr ⟨lw_p77, List.forall_mem_cons.mpr ⟨lw_p78, List.forall_mem_cons.mpr ⟨lw_p79, fun _ h => absurd h List.not_mem_nil⟩⟩⟩⟩⟩⟩⟩⟩⟩⟩⟩⟩⟩⟩⟩⟩
set_option maxRecDepth 20000 in
theorem lw_p80 : lw_okq (⟨"EchoFairModel", "reasonOf", "(II)I"⟩, 28) := ⟨⟨by decide +kernel, by decide +kernel⟩, List.mem_of_getElem? (i := 1412) rfl, List.mem_of_getElem? (i := 1752) rfl, List.mem_of_getElem? (i := 1753) rfl⟩
set_option maxRecDepth 20000 in
theorem lw_p81 : lw_okq (⟨"EchoFairModel", "seen", "(II)I"⟩, 28) := ⟨⟨by decide +kernel, by decide +kernel⟩, List.mem_of_getElem? (i := 1412) rfl, List.mem_of_getElem? (i := 1756) rfl, List.mem_of_getElem? (i := 1757) rfl⟩
set_option maxRecDepth 20000 in
theorem lw_p82 : lw_okq (⟨"EchoFairModel", "trueScore", "(II)I"⟩, 28) := ⟨⟨by decide +kernel, by decide +kernel⟩, List.mem_of_getElem? (i := 1412) rfl, List.mem_of_getElem? (i := 1760) rfl, List.mem_of_getElem? (i := 1761) rfl⟩
set_option maxRecDepth 20000 in
theorem lw_p83 : lw_okq (⟨"EchoFairModel", "isBetterValley", "(II)Z"⟩, 28) := ⟨⟨by decide +kernel, by decide +kernel⟩, List.mem_of_getElem? (i := 1412) rfl, List.mem_of_getElem? (i := 1767) rfl, List.mem_of_getElem? (i := 1768) rfl⟩
set_option maxRecDepth 20000 in
theorem lw_p84 : lw_okq (⟨"EchoFairModel", "applies", "(II)V"⟩, 28) := ⟨⟨by decide +kernel, by decide +kernel⟩, List.mem_of_getElem? (i := 1412) rfl, List.mem_of_getElem? (i := 1771) rfl, List.mem_of_getElem? (i := 1772) rfl⟩
set_option maxRecDepth 20000 in
theorem lw_p85 : lw_okq (⟨"EchoFairModel", "freePosts", "(I)I"⟩, 28) := ⟨⟨by decide +kernel, by decide +kernel⟩, List.mem_of_getElem? (i := 1412) rfl, List.mem_of_getElem? (i := 1775) rfl, List.mem_of_getElem? (i := 1776) rfl⟩
set_option maxRecDepth 20000 in
theorem lw_p86 : lw_okq (⟨"EchoFairModel", "leastKept", "(I)I"⟩, 28) := ⟨⟨by decide +kernel, by decide +kernel⟩, List.mem_of_getElem? (i := 1412) rfl, List.mem_of_getElem? (i := 1779) rfl, List.mem_of_getElem? (i := 1780) rfl⟩
set_option maxRecDepth 20000 in
theorem lw_p87 : lw_okq (⟨"EchoFairModel", "isBetterEcho", "(III)Z"⟩, 28) := ⟨⟨by decide +kernel, by decide +kernel⟩, List.mem_of_getElem? (i := 1412) rfl, List.mem_of_getElem? (i := 1783) rfl, List.mem_of_getElem? (i := 1784) rfl⟩
set_option maxRecDepth 20000 in
theorem lw_p88 : lw_okq (⟨"EchoFairModel", "isKept", "(II)Z"⟩, 28) := ⟨⟨by decide +kernel, by decide +kernel⟩, List.mem_of_getElem? (i := 1412) rfl, List.mem_of_getElem? (i := 1787) rfl, List.mem_of_getElem? (i := 1788) rfl⟩
set_option maxRecDepth 20000 in
theorem lw_p89 : lw_okq (⟨"EchoFairModel", "contractComes", "(II)V"⟩, 28) := ⟨⟨by decide +kernel, by decide +kernel⟩, List.mem_of_getElem? (i := 1412) rfl, List.mem_of_getElem? (i := 1791) rfl, List.mem_of_getElem? (i := 1792) rfl⟩
set_option maxRecDepth 20000 in
theorem lw_p90 : lw_okq (⟨"EchoFairModel", "earns", "(I)V"⟩, 28) := ⟨⟨by decide +kernel, by decide +kernel⟩, List.mem_of_getElem? (i := 1412) rfl, List.mem_of_getElem? (i := 1795) rfl, List.mem_of_getElem? (i := 1796) rfl⟩
set_option maxRecDepth 20000 in
theorem lw_p91 : lw_okq (⟨"EchoFairModel", "pays", "(II)V"⟩, 28) := ⟨⟨by decide +kernel, by decide +kernel⟩, List.mem_of_getElem? (i := 1412) rfl, List.mem_of_getElem? (i := 1799) rfl, List.mem_of_getElem? (i := 1800) rfl⟩
set_option maxRecDepth 20000 in
theorem lw_p92 : lw_okq (⟨"EchoFairModel", "mayDesert", "(I)V"⟩, 28) := ⟨⟨by decide +kernel, by decide +kernel⟩, List.mem_of_getElem? (i := 1412) rfl, List.mem_of_getElem? (i := 1803) rfl, List.mem_of_getElem? (i := 1804) rfl⟩
set_option maxRecDepth 20000 in
theorem lw_p93 : lw_okq (⟨"EchoFairModel", "fogNow", "(I)I"⟩, 28) := ⟨⟨by decide +kernel, by decide +kernel⟩, List.mem_of_getElem? (i := 1412) rfl, List.mem_of_getElem? (i := 1807) rfl, List.mem_of_getElem? (i := 1808) rfl⟩
set_option maxRecDepth 20000 in
theorem lw_p94 : lw_okq (⟨"EchoFairModel", "holdNow", "()Z"⟩, 28) := ⟨⟨by decide +kernel, by decide +kernel⟩, List.mem_of_getElem? (i := 1412) rfl, List.mem_of_getElem? (i := 1811) rfl, List.mem_of_getElem? (i := 1812) rfl⟩
set_option maxRecDepth 20000 in
theorem lw_p95 : lw_okq (⟨"EchoFairModel", "testNow", "(II)Z"⟩, 28) := ⟨⟨by decide +kernel, by decide +kernel⟩, List.mem_of_getElem? (i := 1412) rfl, List.mem_of_getElem? (i := 1815) rfl, List.mem_of_getElem? (i := 1816) rfl⟩
def lw_privs_6 : List (MethodName × Nat) := [(⟨"EchoFairModel", "reasonOf", "(II)I"⟩, 28), (⟨"EchoFairModel", "seen", "(II)I"⟩, 28), (⟨"EchoFairModel", "trueScore", "(II)I"⟩, 28), (⟨"EchoFairModel", "isBetterValley", "(II)Z"⟩, 28), (⟨"EchoFairModel", "applies", "(II)V"⟩, 28), (⟨"EchoFairModel", "freePosts", "(I)I"⟩, 28), (⟨"EchoFairModel", "leastKept", "(I)I"⟩, 28), (⟨"EchoFairModel", "isBetterEcho", "(III)Z"⟩, 28), (⟨"EchoFairModel", "isKept", "(II)Z"⟩, 28), (⟨"EchoFairModel", "contractComes", "(II)V"⟩, 28), (⟨"EchoFairModel", "earns", "(I)V"⟩, 28), (⟨"EchoFairModel", "pays", "(II)V"⟩, 28), (⟨"EchoFairModel", "mayDesert", "(I)V"⟩, 28), (⟨"EchoFairModel", "fogNow", "(I)I"⟩, 28), (⟨"EchoFairModel", "holdNow", "()Z"⟩, 28), (⟨"EchoFairModel", "testNow", "(II)Z"⟩, 28)]
theorem lw_r6 : ∀ q ∈ lw_privs_6, lw_okq q := List.forall_mem_cons.mpr ⟨lw_p80, List.forall_mem_cons.mpr ⟨lw_p81, List.forall_mem_cons.mpr ⟨lw_p82, List.forall_mem_cons.mpr ⟨lw_p83, List.forall_mem_cons.mpr ⟨lw_p84, List.forall_mem_cons.mpr ⟨lw_p85, List.forall_mem_cons.mpr ⟨lw_p86, List.forall_mem_cons.mpr ⟨lw_p87, List.forall_mem_cons.mpr ⟨lw_p88, List.forall_mem_cons.mpr ⟨lw_p89, List.forall_mem_cons.mpr ⟨lw_p90, List.forall_mem_cons.mpr ⟨lw_p91, List.forall_mem_cons.mpr ⟨lw_p92, List.forall_mem_cons.mpr ⟨lw_p93, List.forall_mem_cons.mpr ⟨lw_p94, List.forall_mem_cons.mpr ⟨lw_p95, fun _ h => absurd h List.not_mem_nil⟩⟩⟩⟩⟩⟩⟩⟩⟩⟩⟩⟩⟩⟩⟩⟩
set_option maxRecDepth 20000 in
theorem lw_p96 : lw_okq (⟨"EchoFairModel", "canTest", "(II)Z"⟩, 28) := ⟨⟨by decide +kernel, by decide +kernel⟩, List.mem_of_getElem? (i := 1412) rfl, List.mem_of_getElem? (i := 1819) rfl, List.mem_of_getElem? (i := 1820) rfl⟩
set_option maxRecDepth 20000 in
theorem lw_p97 : lw_okq (⟨"EchoFairModel", "dismissNow", "(I)Z"⟩, 28) := ⟨⟨by decide +kernel, by decide +kernel⟩, List.mem_of_getElem? (i := 1412) rfl, List.mem_of_getElem? (i := 1823) rfl, List.mem_of_getElem? (i := 1824) rfl⟩
set_option maxRecDepth 20000 in
theorem lw_p98 : lw_okq (⟨"EchoFairModel", "wageNow", "(II)Z"⟩, 28) := ⟨⟨by decide +kernel, by decide +kernel⟩, List.mem_of_getElem? (i := 1412) rfl, List.mem_of_getElem? (i := 1827) rfl, List.mem_of_getElem? (i := 1828) rfl⟩
set_option maxRecDepth 20000 in
theorem lw_p99 : lw_okq (⟨"EchoFairModel", "fundNow", "(II)Z"⟩, 28) := ⟨⟨by decide +kernel, by decide +kernel⟩, List.mem_of_getElem? (i := 1412) rfl, List.mem_of_getElem? (i := 1831) rfl, List.mem_of_getElem? (i := 1832) rfl⟩
set_option maxRecDepth 20000 in
theorem lw_p100 : lw_okq (⟨"EchoFairModel", "trainNow", "(I)Z"⟩, 28) := ⟨⟨by decide +kernel, by decide +kernel⟩, List.mem_of_getElem? (i := 1412) rfl, List.mem_of_getElem? (i := 1835) rfl, List.mem_of_getElem? (i := 1836) rfl⟩
set_option maxRecDepth 20000 in
theorem lw_p101 : lw_okq (⟨"EchoFairModel", "canTrain", "(I)Z"⟩, 28) := ⟨⟨by decide +kernel, by decide +kernel⟩, List.mem_of_getElem? (i := 1412) rfl, List.mem_of_getElem? (i := 1839) rfl, List.mem_of_getElem? (i := 1840) rfl⟩
set_option maxRecDepth 20000 in
theorem lw_p102 : lw_okq (⟨"EchoFairModel", "tells", "(I)I"⟩, 28) := ⟨⟨by decide +kernel, by decide +kernel⟩, List.mem_of_getElem? (i := 1412) rfl, List.mem_of_getElem? (i := 1847) rfl, List.mem_of_getElem? (i := 1848) rfl⟩
set_option maxRecDepth 20000 in
theorem lw_p103 : lw_okq (⟨"EchoFairModel", "finds", "(Z)I"⟩, 28) := ⟨⟨by decide +kernel, by decide +kernel⟩, List.mem_of_getElem? (i := 1412) rfl, List.mem_of_getElem? (i := 1872) rfl, List.mem_of_getElem? (i := 1873) rfl⟩
set_option maxRecDepth 20000 in
theorem lw_p104 : lw_okq (⟨"EchoFairModel", "tellsEcho", "(II)I"⟩, 28) := ⟨⟨by decide +kernel, by decide +kernel⟩, List.mem_of_getElem? (i := 1412) rfl, List.mem_of_getElem? (i := 1884) rfl, List.mem_of_getElem? (i := 1885) rfl⟩
set_option maxRecDepth 20000 in
theorem lw_p105 : lw_okq (⟨"EchoFairModel", "isEcho", "(I)Z"⟩, 28) := ⟨⟨by decide +kernel, by decide +kernel⟩, List.mem_of_getElem? (i := 1412) rfl, List.mem_of_getElem? (i := 1888) rfl, List.mem_of_getElem? (i := 1889) rfl⟩
set_option maxRecDepth 20000 in
theorem lw_p106 : lw_okq (⟨"EchoFairModel", "tellsValley", "(II)I"⟩, 28) := ⟨⟨by decide +kernel, by decide +kernel⟩, List.mem_of_getElem? (i := 1412) rfl, List.mem_of_getElem? (i := 1920) rfl, List.mem_of_getElem? (i := 1921) rfl⟩
set_option maxRecDepth 20000 in
theorem lw_p107 : lw_okq (⟨"EchoFairModel", "isValley", "(I)Z"⟩, 28) := ⟨⟨by decide +kernel, by decide +kernel⟩, List.mem_of_getElem? (i := 1412) rfl, List.mem_of_getElem? (i := 1924) rfl, List.mem_of_getElem? (i := 1925) rfl⟩
set_option maxRecDepth 20000 in
theorem lw_p108 : lw_okq (⟨"EchoFairModel", "areBoth", "(II)Z"⟩, 28) := ⟨⟨by decide +kernel, by decide +kernel⟩, List.mem_of_getElem? (i := 1412) rfl, List.mem_of_getElem? (i := 1952) rfl, List.mem_of_getElem? (i := 1953) rfl⟩
set_option maxRecDepth 20000 in
theorem lw_p109 : lw_okq (⟨"EchoFairModel", "valleyAt", "(II)I"⟩, 28) := ⟨⟨by decide +kernel, by decide +kernel⟩, List.mem_of_getElem? (i := 1412) rfl, List.mem_of_getElem? (i := 1968) rfl, List.mem_of_getElem? (i := 1969) rfl⟩
set_option maxRecDepth 20000 in
theorem lw_p110 : lw_okq (⟨"EchoFairModel", "echoAt", "(II)I"⟩, 28) := ⟨⟨by decide +kernel, by decide +kernel⟩, List.mem_of_getElem? (i := 1412) rfl, List.mem_of_getElem? (i := 1979) rfl, List.mem_of_getElem? (i := 1980) rfl⟩
set_option maxRecDepth 20000 in
theorem lw_p111 : lw_okq (⟨"EchoFairModel", "isBlocking", "(II)Z"⟩, 28) := ⟨⟨by decide +kernel, by decide +kernel⟩, List.mem_of_getElem? (i := 1412) rfl, List.mem_of_getElem? (i := 1987) rfl, List.mem_of_getElem? (i := 1988) rfl⟩
def lw_privs_7 : List (MethodName × Nat) := [(⟨"EchoFairModel", "canTest", "(II)Z"⟩, 28), (⟨"EchoFairModel", "dismissNow", "(I)Z"⟩, 28), (⟨"EchoFairModel", "wageNow", "(II)Z"⟩, 28), (⟨"EchoFairModel", "fundNow", "(II)Z"⟩, 28), (⟨"EchoFairModel", "trainNow", "(I)Z"⟩, 28), (⟨"EchoFairModel", "canTrain", "(I)Z"⟩, 28), (⟨"EchoFairModel", "tells", "(I)I"⟩, 28), (⟨"EchoFairModel", "finds", "(Z)I"⟩, 28), (⟨"EchoFairModel", "tellsEcho", "(II)I"⟩, 28), (⟨"EchoFairModel", "isEcho", "(I)Z"⟩, 28), (⟨"EchoFairModel", "tellsValley", "(II)I"⟩, 28), (⟨"EchoFairModel", "isValley", "(I)Z"⟩, 28), (⟨"EchoFairModel", "areBoth", "(II)Z"⟩, 28), (⟨"EchoFairModel", "valleyAt", "(II)I"⟩, 28), (⟨"EchoFairModel", "echoAt", "(II)I"⟩, 28), (⟨"EchoFairModel", "isBlocking", "(II)Z"⟩, 28)]
theorem lw_r7 : ∀ q ∈ lw_privs_7, lw_okq q := List.forall_mem_cons.mpr ⟨lw_p96, List.forall_mem_cons.mpr ⟨lw_p97, List.forall_mem_cons.mpr ⟨lw_p98, List.forall_mem_cons.mpr ⟨lw_p99, List.forall_mem_cons.mpr ⟨lw_p100, List.forall_mem_cons.mpr ⟨lw_p101, List.forall_mem_cons.mpr ⟨lw_p102, List.forall_mem_cons.mpr ⟨lw_p103, List.forall_mem_cons.mpr ⟨lw_p104, List.forall_mem_cons.mpr ⟨lw_p105, List.forall_mem_cons.mpr ⟨lw_p106, List.forall_mem_cons.mpr ⟨lw_p107, List.forall_mem_cons.mpr ⟨lw_p108, List.forall_mem_cons.mpr ⟨lw_p109, List.forall_mem_cons.mpr ⟨lw_p110, List.forall_mem_cons.mpr ⟨lw_p111, fun _ h => absurd h List.not_mem_nil⟩⟩⟩⟩⟩⟩⟩⟩⟩⟩⟩⟩⟩⟩⟩⟩
set_option maxRecDepth 20000 in
theorem lw_p112 : lw_okq (⟨"EchoFairModel", "wouldLeave", "(II)Z"⟩, 28) := ⟨⟨by decide +kernel, by decide +kernel⟩, List.mem_of_getElem? (i := 1412) rfl, List.mem_of_getElem? (i := 1991) rfl, List.mem_of_getElem? (i := 1992) rfl⟩
set_option maxRecDepth 20000 in
theorem lw_p113 : lw_okq (⟨"EchoFairModel", "wouldTake", "(II)Z"⟩, 28) := ⟨⟨by decide +kernel, by decide +kernel⟩, List.mem_of_getElem? (i := 1412) rfl, List.mem_of_getElem? (i := 1995) rfl, List.mem_of_getElem? (i := 1996) rfl⟩
set_option maxRecDepth 20000 in
theorem lw_p114 : lw_okq (⟨"EchoFairModel", "resultOf", "(I)I"⟩, 28) := ⟨⟨by decide +kernel, by decide +kernel⟩, List.mem_of_getElem? (i := 1412) rfl, List.mem_of_getElem? (i := 2003) rfl, List.mem_of_getElem? (i := 2004) rfl⟩
set_option maxRecDepth 20000 in
theorem lw_p115 : lw_okq (⟨"EchoFairModel", "tries", "()V"⟩, 28) := ⟨⟨by decide +kernel, by decide +kernel⟩, List.mem_of_getElem? (i := 1412) rfl, List.mem_of_getElem? (i := 2007) rfl, List.mem_of_getElem? (i := 2008) rfl⟩
set_option maxRecDepth 20000 in
theorem lw_p116 : lw_okq (⟨"EchoFairModel", "laidBack", "(I)I"⟩, 28) := ⟨⟨by decide +kernel, by decide +kernel⟩, List.mem_of_getElem? (i := 1412) rfl, List.mem_of_getElem? (i := 2011) rfl, List.mem_of_getElem? (i := 2012) rfl⟩
set_option maxRecDepth 20000 in
theorem lw_p117 : lw_okq (⟨"EchoFairModel", "passesBoth", "(ZZ)Z"⟩, 28) := ⟨⟨by decide +kernel, by decide +kernel⟩, List.mem_of_getElem? (i := 1412) rfl, List.mem_of_getElem? (i := 2023) rfl, List.mem_of_getElem? (i := 2024) rfl⟩
set_option maxRecDepth 20000 in
theorem lw_p118 : lw_okq (⟨"EchoFairModel", "purses", "()I"⟩, 28) := ⟨⟨by decide +kernel, by decide +kernel⟩, List.mem_of_getElem? (i := 1412) rfl, List.mem_of_getElem? (i := 2075) rfl, List.mem_of_getElem? (i := 2076) rfl⟩
set_option maxRecDepth 20000 in
theorem lw_p119 : lw_okq (⟨"EchoFairModel", "savings", "()I"⟩, 28) := ⟨⟨by decide +kernel, by decide +kernel⟩, List.mem_of_getElem? (i := 1412) rfl, List.mem_of_getElem? (i := 2079) rfl, List.mem_of_getElem? (i := 2080) rfl⟩
set_option maxRecDepth 20000 in
theorem lw_p120 : lw_okq (⟨"EchoFairModel", "contracts", "()I"⟩, 28) := ⟨⟨by decide +kernel, by decide +kernel⟩, List.mem_of_getElem? (i := 1412) rfl, List.mem_of_getElem? (i := 2087) rfl, List.mem_of_getElem? (i := 2088) rfl⟩
set_option maxRecDepth 20000 in
theorem lw_p121 : lw_okq (⟨"EchoFairModel", "servedBy", "(I)I"⟩, 28) := ⟨⟨by decide +kernel, by decide +kernel⟩, List.mem_of_getElem? (i := 1412) rfl, List.mem_of_getElem? (i := 2095) rfl, List.mem_of_getElem? (i := 2096) rfl⟩
set_option maxRecDepth 20000 in
theorem lw_p122 : lw_okq (⟨"EchoFairModel", "tried", "(Z)Z"⟩, 28) := ⟨⟨by decide +kernel, by decide +kernel⟩, List.mem_of_getElem? (i := 1412) rfl, List.mem_of_getElem? (i := 2112) rfl, List.mem_of_getElem? (i := 2113) rfl⟩
set_option maxRecDepth 20000 in
theorem lw_p123 : lw_okq (⟨"EchoFairModel", "done", "(Z)I"⟩, 28) := ⟨⟨by decide +kernel, by decide +kernel⟩, List.mem_of_getElem? (i := 1412) rfl, List.mem_of_getElem? (i := 2116) rfl, List.mem_of_getElem? (i := 2117) rfl⟩
set_option maxRecDepth 20000 in
theorem lw_p124 : lw_okq (⟨"EchoFairModel", "writes", "(I)V"⟩, 28) := ⟨⟨by decide +kernel, by decide +kernel⟩, List.mem_of_getElem? (i := 1412) rfl, List.mem_of_getElem? (i := 2162) rfl, List.mem_of_getElem? (i := 2163) rfl⟩
set_option maxRecDepth 20000 in
theorem lw_p125 : lw_okq (⟨"EchoFairModel", "writesName", "(I)V"⟩, 28) := ⟨⟨by decide +kernel, by decide +kernel⟩, List.mem_of_getElem? (i := 1412) rfl, List.mem_of_getElem? (i := 2166) rfl, List.mem_of_getElem? (i := 2167) rfl⟩
def lw_privs_8 : List (MethodName × Nat) := [(⟨"EchoFairModel", "wouldLeave", "(II)Z"⟩, 28), (⟨"EchoFairModel", "wouldTake", "(II)Z"⟩, 28), (⟨"EchoFairModel", "resultOf", "(I)I"⟩, 28), (⟨"EchoFairModel", "tries", "()V"⟩, 28), (⟨"EchoFairModel", "laidBack", "(I)I"⟩, 28), (⟨"EchoFairModel", "passesBoth", "(ZZ)Z"⟩, 28), (⟨"EchoFairModel", "purses", "()I"⟩, 28), (⟨"EchoFairModel", "savings", "()I"⟩, 28), (⟨"EchoFairModel", "contracts", "()I"⟩, 28), (⟨"EchoFairModel", "servedBy", "(I)I"⟩, 28), (⟨"EchoFairModel", "tried", "(Z)Z"⟩, 28), (⟨"EchoFairModel", "done", "(Z)I"⟩, 28), (⟨"EchoFairModel", "writes", "(I)V"⟩, 28), (⟨"EchoFairModel", "writesName", "(I)V"⟩, 28)]
theorem lw_r8 : ∀ q ∈ lw_privs_8, lw_okq q := List.forall_mem_cons.mpr ⟨lw_p112, List.forall_mem_cons.mpr ⟨lw_p113, List.forall_mem_cons.mpr ⟨lw_p114, List.forall_mem_cons.mpr ⟨lw_p115, List.forall_mem_cons.mpr ⟨lw_p116, List.forall_mem_cons.mpr ⟨lw_p117, List.forall_mem_cons.mpr ⟨lw_p118, List.forall_mem_cons.mpr ⟨lw_p119, List.forall_mem_cons.mpr ⟨lw_p120, List.forall_mem_cons.mpr ⟨lw_p121, List.forall_mem_cons.mpr ⟨lw_p122, List.forall_mem_cons.mpr ⟨lw_p123, List.forall_mem_cons.mpr ⟨lw_p124, List.forall_mem_cons.mpr ⟨lw_p125, fun _ h => absurd h List.not_mem_nil⟩⟩⟩⟩⟩⟩⟩⟩⟩⟩⟩⟩⟩⟩
def lw_privs : List (MethodName × Nat) := lw_privs_1 ++ (lw_privs_2 ++ (lw_privs_3 ++ (lw_privs_4 ++ (lw_privs_5 ++ (lw_privs_6 ++ (lw_privs_7 ++ (lw_privs_8)))))))
def lw_tbl : List Cond := k2_sels lw_privs ++ tables_1
theorem lw_privs_ok : ∀ q ∈ lw_privs, lw_okq q := by
  show ∀ q ∈ lw_privs_1 ++ (lw_privs_2 ++ (lw_privs_3 ++ (lw_privs_4 ++ (lw_privs_5 ++ (lw_privs_6 ++ (lw_privs_7 ++ (lw_privs_8))))))), lw_okq q
  exact List.forall_mem_append.mpr ⟨lw_r1, List.forall_mem_append.mpr ⟨lw_r2, List.forall_mem_append.mpr ⟨lw_r3, List.forall_mem_append.mpr ⟨lw_r4, List.forall_mem_append.mpr ⟨lw_r5, List.forall_mem_append.mpr ⟨lw_r6, List.forall_mem_append.mpr ⟨lw_r7, lw_r8⟩⟩⟩⟩⟩⟩⟩
/-- the streams that the claim lets the run draw from -/
abbrev lw_cs : List Choice := [Jvm.Choice.named "NaN.bits"]
theorem lw_bits : nanBits ∈ lw_cs := by first | decide | exact List.mem_cons_self | simp [lw_cs, nanBits]
