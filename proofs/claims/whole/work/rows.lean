section
-- ===== PART A: goes FIRST, ahead of the names: the tables' words, and 'selects' of the private methods out of them =====
/-- a private method of a class that the tables say can be made, by its rows of tables_1 -/
def lw_okq (q : MethodName × Nat) : Prop := (q.1.cls ≠ "java/lang/invoke/MethodHandle" ∧ q.1.cls ≠ "java/lang/invoke/VarHandle") ∧ Cond.instantiable q.1.cls q.2 ∈ tables_1 ∧ Cond.privateMethod q.1 ∈ tables_1 ∧ Cond.instanceMethod q.1 ∈ tables_1
theorem lw_p0 : lw_okq (⟨"ShareTickets$Tree", "isUnder", "(II)Z"⟩, 5) := ⟨⟨by decide +kernel, by decide +kernel⟩, List.mem_of_getElem? (i := 40) (by decide +kernel), List.mem_of_getElem? (i := 386) (by decide +kernel), List.mem_of_getElem? (i := 387) (by decide +kernel)⟩
theorem lw_p1 : lw_okq (⟨"ShareTickets$Note", "putNumber", "(I)V"⟩, 2) := ⟨⟨by decide +kernel, by decide +kernel⟩, List.mem_of_getElem? (i := 335) (by decide +kernel), List.mem_of_getElem? (i := 440) (by decide +kernel), List.mem_of_getElem? (i := 441) (by decide +kernel)⟩
theorem lw_p2 : lw_okq (⟨"java/lang/Throwable", "fillInStackTrace", "(I)Ljava/lang/Throwable;"⟩, 6) := ⟨⟨by decide +kernel, by decide +kernel⟩, List.mem_of_getElem? (i := 491) (by decide +kernel), List.mem_of_getElem? (i := 489) (by decide +kernel), List.mem_of_getElem? (i := 490) (by decide +kernel)⟩
theorem lw_p3 : lw_okq (⟨"ShareTickets$Text", "isOver", "()Z"⟩, 7) := ⟨⟨by decide +kernel, by decide +kernel⟩, List.mem_of_getElem? (i := 303) (by decide +kernel), List.mem_of_getElem? (i := 556) (by decide +kernel), List.mem_of_getElem? (i := 557) (by decide +kernel)⟩
theorem lw_p4 : lw_okq (⟨"ShareTickets$Text", "skipSpaces", "()V"⟩, 7) := ⟨⟨by decide +kernel, by decide +kernel⟩, List.mem_of_getElem? (i := 303) (by decide +kernel), List.mem_of_getElem? (i := 560) (by decide +kernel), List.mem_of_getElem? (i := 561) (by decide +kernel)⟩
theorem lw_p5 : lw_okq (⟨"ShareTickets$Text", "byteAt", "(I)I"⟩, 7) := ⟨⟨by decide +kernel, by decide +kernel⟩, List.mem_of_getElem? (i := 303) (by decide +kernel), List.mem_of_getElem? (i := 564) (by decide +kernel), List.mem_of_getElem? (i := 565) (by decide +kernel)⟩
theorem lw_p6 : lw_okq (⟨"ShareTickets$Text", "readStatement", "(LShareTickets$Place;)V"⟩, 7) := ⟨⟨by decide +kernel, by decide +kernel⟩, List.mem_of_getElem? (i := 303) (by decide +kernel), List.mem_of_getElem? (i := 568) (by decide +kernel), List.mem_of_getElem? (i := 569) (by decide +kernel)⟩
theorem lw_p7 : lw_okq (⟨"ShareTickets$Text", "skipWord", "()V"⟩, 7) := ⟨⟨by decide +kernel, by decide +kernel⟩, List.mem_of_getElem? (i := 303) (by decide +kernel), List.mem_of_getElem? (i := 572) (by decide +kernel), List.mem_of_getElem? (i := 573) (by decide +kernel)⟩
theorem lw_p8 : lw_okq (⟨"ShareTickets$Text", "isWord", "(Ljava/lang/String;I)Z"⟩, 7) := ⟨⟨by decide +kernel, by decide +kernel⟩, List.mem_of_getElem? (i := 303) (by decide +kernel), List.mem_of_getElem? (i := 577) (by decide +kernel), List.mem_of_getElem? (i := 578) (by decide +kernel)⟩
theorem lw_p9 : lw_okq (⟨"ShareTickets$Text", "readUser", "(LShareTickets$Place;I)V"⟩, 7) := ⟨⟨by decide +kernel, by decide +kernel⟩, List.mem_of_getElem? (i := 303) (by decide +kernel), List.mem_of_getElem? (i := 629) (by decide +kernel), List.mem_of_getElem? (i := 630) (by decide +kernel)⟩
theorem lw_p10 : lw_okq (⟨"ShareTickets$Text", "fail", "(II)V"⟩, 7) := ⟨⟨by decide +kernel, by decide +kernel⟩, List.mem_of_getElem? (i := 303) (by decide +kernel), List.mem_of_getElem? (i := 637) (by decide +kernel), List.mem_of_getElem? (i := 638) (by decide +kernel)⟩
theorem lw_p11 : lw_okq (⟨"ShareTickets$Text", "readNumber", "(II)I"⟩, 7) := ⟨⟨by decide +kernel, by decide +kernel⟩, List.mem_of_getElem? (i := 303) (by decide +kernel), List.mem_of_getElem? (i := 641) (by decide +kernel), List.mem_of_getElem? (i := 642) (by decide +kernel)⟩
theorem lw_p12 : lw_okq (⟨"ShareTickets$Tree", "dealBase", "()V"⟩, 5) := ⟨⟨by decide +kernel, by decide +kernel⟩, List.mem_of_getElem? (i := 40) (by decide +kernel), List.mem_of_getElem? (i := 657) (by decide +kernel), List.mem_of_getElem? (i := 658) (by decide +kernel)⟩
theorem lw_p13 : lw_okq (⟨"ShareTickets$Tree", "sharesUnder", "(I)I"⟩, 5) := ⟨⟨by decide +kernel, by decide +kernel⟩, List.mem_of_getElem? (i := 40) (by decide +kernel), List.mem_of_getElem? (i := 661) (by decide +kernel), List.mem_of_getElem? (i := 662) (by decide +kernel)⟩
theorem lw_p14 : lw_okq (⟨"ShareTickets$Text", "readMachine", "(LShareTickets$Place;I)V"⟩, 7) := ⟨⟨by decide +kernel, by decide +kernel⟩, List.mem_of_getElem? (i := 303) (by decide +kernel), List.mem_of_getElem? (i := 666) (by decide +kernel), List.mem_of_getElem? (i := 667) (by decide +kernel)⟩
theorem lw_p15 : lw_okq (⟨"ShareTickets$Text", "readJob", "(LShareTickets$Place;I)V"⟩, 7) := ⟨⟨by decide +kernel, by decide +kernel⟩, List.mem_of_getElem? (i := 303) (by decide +kernel), List.mem_of_getElem? (i := 680) (by decide +kernel), List.mem_of_getElem? (i := 681) (by decide +kernel)⟩
def lw_privs_1 : List (MethodName × Nat) := [(⟨"ShareTickets$Tree", "isUnder", "(II)Z"⟩, 5), (⟨"ShareTickets$Note", "putNumber", "(I)V"⟩, 2), (⟨"java/lang/Throwable", "fillInStackTrace", "(I)Ljava/lang/Throwable;"⟩, 6), (⟨"ShareTickets$Text", "isOver", "()Z"⟩, 7), (⟨"ShareTickets$Text", "skipSpaces", "()V"⟩, 7), (⟨"ShareTickets$Text", "byteAt", "(I)I"⟩, 7), (⟨"ShareTickets$Text", "readStatement", "(LShareTickets$Place;)V"⟩, 7), (⟨"ShareTickets$Text", "skipWord", "()V"⟩, 7), (⟨"ShareTickets$Text", "isWord", "(Ljava/lang/String;I)Z"⟩, 7), (⟨"ShareTickets$Text", "readUser", "(LShareTickets$Place;I)V"⟩, 7), (⟨"ShareTickets$Text", "fail", "(II)V"⟩, 7), (⟨"ShareTickets$Text", "readNumber", "(II)I"⟩, 7), (⟨"ShareTickets$Tree", "dealBase", "()V"⟩, 5), (⟨"ShareTickets$Tree", "sharesUnder", "(I)I"⟩, 5), (⟨"ShareTickets$Text", "readMachine", "(LShareTickets$Place;I)V"⟩, 7), (⟨"ShareTickets$Text", "readJob", "(LShareTickets$Place;I)V"⟩, 7)]
theorem lw_r1 : ∀ q ∈ lw_privs_1, lw_okq q := List.forall_mem_cons.mpr ⟨lw_p0, List.forall_mem_cons.mpr ⟨lw_p1, List.forall_mem_cons.mpr ⟨lw_p2, List.forall_mem_cons.mpr ⟨lw_p3, List.forall_mem_cons.mpr ⟨lw_p4, List.forall_mem_cons.mpr ⟨lw_p5, List.forall_mem_cons.mpr ⟨lw_p6, List.forall_mem_cons.mpr ⟨lw_p7, List.forall_mem_cons.mpr ⟨lw_p8, List.forall_mem_cons.mpr ⟨lw_p9, List.forall_mem_cons.mpr ⟨lw_p10, List.forall_mem_cons.mpr ⟨lw_p11, List.forall_mem_cons.mpr ⟨lw_p12, List.forall_mem_cons.mpr ⟨lw_p13, List.forall_mem_cons.mpr ⟨lw_p14, List.forall_mem_cons.mpr ⟨lw_p15, fun _ h => absurd h List.not_mem_nil⟩⟩⟩⟩⟩⟩⟩⟩⟩⟩⟩⟩⟩⟩⟩⟩
theorem lw_p16 : lw_okq (⟨"ShareTickets$Text", "readSetting", "(LShareTickets$Place;I)V"⟩, 7) := ⟨⟨by decide +kernel, by decide +kernel⟩, List.mem_of_getElem? (i := 303) (by decide +kernel), List.mem_of_getElem? (i := 695) (by decide +kernel), List.mem_of_getElem? (i := 696) (by decide +kernel)⟩
theorem lw_p17 : lw_okq (⟨"ShareTickets$Text", "readSemicolon", "()V"⟩, 7) := ⟨⟨by decide +kernel, by decide +kernel⟩, List.mem_of_getElem? (i := 303) (by decide +kernel), List.mem_of_getElem? (i := 705) (by decide +kernel), List.mem_of_getElem? (i := 706) (by decide +kernel)⟩
theorem lw_p18 : lw_okq (⟨"ShareTickets$Scale", "countJobs", "(LShareTickets$Place;)V"⟩, 6) := ⟨⟨by decide +kernel, by decide +kernel⟩, List.mem_of_getElem? (i := 182) (by decide +kernel), List.mem_of_getElem? (i := 747) (by decide +kernel), List.mem_of_getElem? (i := 748) (by decide +kernel)⟩
theorem lw_p19 : lw_okq (⟨"ShareTickets$Scale", "dealTickets", "(LShareTickets$Place;)V"⟩, 6) := ⟨⟨by decide +kernel, by decide +kernel⟩, List.mem_of_getElem? (i := 182) (by decide +kernel), List.mem_of_getElem? (i := 753) (by decide +kernel), List.mem_of_getElem? (i := 754) (by decide +kernel)⟩
theorem lw_p20 : lw_okq (⟨"ShareTickets$Loans", "dueAt", "(I)I"⟩, 6) := ⟨⟨by decide +kernel, by decide +kernel⟩, List.mem_of_getElem? (i := 78) (by decide +kernel), List.mem_of_getElem? (i := 762) (by decide +kernel), List.mem_of_getElem? (i := 763) (by decide +kernel)⟩
theorem lw_p21 : lw_okq (⟨"ShareTickets$Scale", "weigh", "(LShareTickets$Tree;I)V"⟩, 6) := ⟨⟨by decide +kernel, by decide +kernel⟩, List.mem_of_getElem? (i := 182) (by decide +kernel), List.mem_of_getElem? (i := 773) (by decide +kernel), List.mem_of_getElem? (i := 774) (by decide +kernel)⟩
theorem lw_p22 : lw_okq (⟨"ShareTickets$Place", "fillSlots", "()V"⟩, 9) := ⟨⟨by decide +kernel, by decide +kernel⟩, List.mem_of_getElem? (i := 34) (by decide +kernel), List.mem_of_getElem? (i := 781) (by decide +kernel), List.mem_of_getElem? (i := 782) (by decide +kernel)⟩
theorem lw_p23 : lw_okq (⟨"ShareTickets$Place", "freeMachine", "()I"⟩, 9) := ⟨⟨by decide +kernel, by decide +kernel⟩, List.mem_of_getElem? (i := 34) (by decide +kernel), List.mem_of_getElem? (i := 785) (by decide +kernel), List.mem_of_getElem? (i := 786) (by decide +kernel)⟩
theorem lw_p24 : lw_okq (⟨"ShareTickets$Place", "startJob", "(II)V"⟩, 9) := ⟨⟨by decide +kernel, by decide +kernel⟩, List.mem_of_getElem? (i := 34) (by decide +kernel), List.mem_of_getElem? (i := 798) (by decide +kernel), List.mem_of_getElem? (i := 799) (by decide +kernel)⟩
theorem lw_p25 : lw_okq (⟨"ShareTickets", "needUser", "(I)V"⟩, 5) := ⟨⟨by decide +kernel, by decide +kernel⟩, List.mem_of_getElem? (i := 26) (by decide +kernel), List.mem_of_getElem? (i := 835) (by decide +kernel), List.mem_of_getElem? (i := 836) (by decide +kernel)⟩
theorem lw_p26 : lw_okq (⟨"ShareTickets", "needLeaf", "(I)V"⟩, 5) := ⟨⟨by decide +kernel, by decide +kernel⟩, List.mem_of_getElem? (i := 26) (by decide +kernel), List.mem_of_getElem? (i := 899) (by decide +kernel), List.mem_of_getElem? (i := 900) (by decide +kernel)⟩
theorem lw_p27 : lw_okq (⟨"ShareTickets$Place", "leavesBefore", "(I)I"⟩, 9) := ⟨⟨by decide +kernel, by decide +kernel⟩, List.mem_of_getElem? (i := 34) (by decide +kernel), List.mem_of_getElem? (i := 954) (by decide +kernel), List.mem_of_getElem? (i := 955) (by decide +kernel)⟩
theorem lw_p28 : lw_okq (⟨"ShareTickets", "needMachine", "(I)V"⟩, 5) := ⟨⟨by decide +kernel, by decide +kernel⟩, List.mem_of_getElem? (i := 26) (by decide +kernel), List.mem_of_getElem? (i := 974) (by decide +kernel), List.mem_of_getElem? (i := 975) (by decide +kernel)⟩
theorem lw_p29 : lw_okq (⟨"ShareTickets", "needJob", "(I)V"⟩, 5) := ⟨⟨by decide +kernel, by decide +kernel⟩, List.mem_of_getElem? (i := 26) (by decide +kernel), List.mem_of_getElem? (i := 998) (by decide +kernel), List.mem_of_getElem? (i := 999) (by decide +kernel)⟩
theorem lw_p30 : lw_okq (⟨"ShareTickets", "needOpen", "(I)V"⟩, 5) := ⟨⟨by decide +kernel, by decide +kernel⟩, List.mem_of_getElem? (i := 26) (by decide +kernel), List.mem_of_getElem? (i := 1047) (by decide +kernel), List.mem_of_getElem? (i := 1048) (by decide +kernel)⟩
theorem lw_p31 : lw_okq (⟨"ShareTickets$Place", "interruptJob", "(I)V"⟩, 9) := ⟨⟨by decide +kernel, by decide +kernel⟩, List.mem_of_getElem? (i := 34) (by decide +kernel), List.mem_of_getElem? (i := 1075) (by decide +kernel), List.mem_of_getElem? (i := 1076) (by decide +kernel)⟩
def lw_privs_2 : List (MethodName × Nat) := [(⟨"ShareTickets$Text", "readSetting", "(LShareTickets$Place;I)V"⟩, 7), (⟨"ShareTickets$Text", "readSemicolon", "()V"⟩, 7), (⟨"ShareTickets$Scale", "countJobs", "(LShareTickets$Place;)V"⟩, 6), (⟨"ShareTickets$Scale", "dealTickets", "(LShareTickets$Place;)V"⟩, 6), (⟨"ShareTickets$Loans", "dueAt", "(I)I"⟩, 6), (⟨"ShareTickets$Scale", "weigh", "(LShareTickets$Tree;I)V"⟩, 6), (⟨"ShareTickets$Place", "fillSlots", "()V"⟩, 9), (⟨"ShareTickets$Place", "freeMachine", "()I"⟩, 9), (⟨"ShareTickets$Place", "startJob", "(II)V"⟩, 9), (⟨"ShareTickets", "needUser", "(I)V"⟩, 5), (⟨"ShareTickets", "needLeaf", "(I)V"⟩, 5), (⟨"ShareTickets$Place", "leavesBefore", "(I)I"⟩, 9), (⟨"ShareTickets", "needMachine", "(I)V"⟩, 5), (⟨"ShareTickets", "needJob", "(I)V"⟩, 5), (⟨"ShareTickets", "needOpen", "(I)V"⟩, 5), (⟨"ShareTickets$Place", "interruptJob", "(I)V"⟩, 9)]
theorem lw_r2 : ∀ q ∈ lw_privs_2, lw_okq q := List.forall_mem_cons.mpr ⟨lw_p16, List.forall_mem_cons.mpr ⟨lw_p17, List.forall_mem_cons.mpr ⟨lw_p18, List.forall_mem_cons.mpr ⟨lw_p19, List.forall_mem_cons.mpr ⟨lw_p20, List.forall_mem_cons.mpr ⟨lw_p21, List.forall_mem_cons.mpr ⟨lw_p22, List.forall_mem_cons.mpr ⟨lw_p23, List.forall_mem_cons.mpr ⟨lw_p24, List.forall_mem_cons.mpr ⟨lw_p25, List.forall_mem_cons.mpr ⟨lw_p26, List.forall_mem_cons.mpr ⟨lw_p27, List.forall_mem_cons.mpr ⟨lw_p28, List.forall_mem_cons.mpr ⟨lw_p29, List.forall_mem_cons.mpr ⟨lw_p30, List.forall_mem_cons.mpr ⟨lw_p31, fun _ h => absurd h List.not_mem_nil⟩⟩⟩⟩⟩⟩⟩⟩⟩⟩⟩⟩⟩⟩⟩⟩
theorem lw_p32 : lw_okq (⟨"ShareTickets$Place", "keptWork", "(I)I"⟩, 9) := ⟨⟨by decide +kernel, by decide +kernel⟩, List.mem_of_getElem? (i := 34) (by decide +kernel), List.mem_of_getElem? (i := 1079) (by decide +kernel), List.mem_of_getElem? (i := 1080) (by decide +kernel)⟩
theorem lw_p33 : lw_okq (⟨"ShareTickets$Place", "workOn", "()V"⟩, 9) := ⟨⟨by decide +kernel, by decide +kernel⟩, List.mem_of_getElem? (i := 34) (by decide +kernel), List.mem_of_getElem? (i := 1109) (by decide +kernel), List.mem_of_getElem? (i := 1110) (by decide +kernel)⟩
theorem lw_p34 : lw_okq (⟨"ShareTickets$Place", "preemptJobs", "()V"⟩, 9) := ⟨⟨by decide +kernel, by decide +kernel⟩, List.mem_of_getElem? (i := 34) (by decide +kernel), List.mem_of_getElem? (i := 1126) (by decide +kernel), List.mem_of_getElem? (i := 1127) (by decide +kernel)⟩
theorem lw_p35 : lw_okq (⟨"ShareTickets$Place", "outweighs", "(II)Z"⟩, 9) := ⟨⟨by decide +kernel, by decide +kernel⟩, List.mem_of_getElem? (i := 34) (by decide +kernel), List.mem_of_getElem? (i := 1131) (by decide +kernel), List.mem_of_getElem? (i := 1132) (by decide +kernel)⟩
theorem lw_p36 : lw_okq (⟨"ShareTicketsModel", "begins", "()V"⟩, 20) := ⟨⟨by decide +kernel, by decide +kernel⟩, List.mem_of_getElem? (i := 1178) (by decide +kernel), List.mem_of_getElem? (i := 1184) (by decide +kernel), List.mem_of_getElem? (i := 1185) (by decide +kernel)⟩
theorem lw_p37 : lw_okq (⟨"ShareTicketsModel", "becomes", "([II)V"⟩, 20) := ⟨⟨by decide +kernel, by decide +kernel⟩, List.mem_of_getElem? (i := 1178) (by decide +kernel), List.mem_of_getElem? (i := 1188) (by decide +kernel), List.mem_of_getElem? (i := 1189) (by decide +kernel)⟩
theorem lw_p38 : lw_okq (⟨"ShareTicketsModel", "next", "()V"⟩, 20) := ⟨⟨by decide +kernel, by decide +kernel⟩, List.mem_of_getElem? (i := 1178) (by decide +kernel), List.mem_of_getElem? (i := 1275) (by decide +kernel), List.mem_of_getElem? (i := 1276) (by decide +kernel)⟩
theorem lw_p39 : lw_okq (⟨"ShareTicketsModel", "see", "(I)I"⟩, 20) := ⟨⟨by decide +kernel, by decide +kernel⟩, List.mem_of_getElem? (i := 1178) (by decide +kernel), List.mem_of_getElem? (i := 1279) (by decide +kernel), List.mem_of_getElem? (i := 1280) (by decide +kernel)⟩
theorem lw_p40 : lw_okq (⟨"ShareTicketsModel", "readsStatement", "()V"⟩, 20) := ⟨⟨by decide +kernel, by decide +kernel⟩, List.mem_of_getElem? (i := 1178) (by decide +kernel), List.mem_of_getElem? (i := 1289) (by decide +kernel), List.mem_of_getElem? (i := 1290) (by decide +kernel)⟩
theorem lw_p41 : lw_okq (⟨"ShareTicketsModel", "isWord", "(Ljava/lang/String;)Z"⟩, 20) := ⟨⟨by decide +kernel, by decide +kernel⟩, List.mem_of_getElem? (i := 1178) (by decide +kernel), List.mem_of_getElem? (i := 1294) (by decide +kernel), List.mem_of_getElem? (i := 1295) (by decide +kernel)⟩
theorem lw_p42 : lw_okq (⟨"ShareTicketsModel", "readsUser", "()V"⟩, 20) := ⟨⟨by decide +kernel, by decide +kernel⟩, List.mem_of_getElem? (i := 1178) (by decide +kernel), List.mem_of_getElem? (i := 1300) (by decide +kernel), List.mem_of_getElem? (i := 1301) (by decide +kernel)⟩
theorem lw_p43 : lw_okq (⟨"ShareTicketsModel", "fails", "(I)V"⟩, 20) := ⟨⟨by decide +kernel, by decide +kernel⟩, List.mem_of_getElem? (i := 1178) (by decide +kernel), List.mem_of_getElem? (i := 1304) (by decide +kernel), List.mem_of_getElem? (i := 1305) (by decide +kernel)⟩
theorem lw_p44 : lw_okq (⟨"ShareTicketsModel", "must", "(Z)V"⟩, 20) := ⟨⟨by decide +kernel, by decide +kernel⟩, List.mem_of_getElem? (i := 1178) (by decide +kernel), List.mem_of_getElem? (i := 1308) (by decide +kernel), List.mem_of_getElem? (i := 1309) (by decide +kernel)⟩
theorem lw_p45 : lw_okq (⟨"ShareTicketsModel", "hasJobs", "(I)Z"⟩, 20) := ⟨⟨by decide +kernel, by decide +kernel⟩, List.mem_of_getElem? (i := 1178) (by decide +kernel), List.mem_of_getElem? (i := 1312) (by decide +kernel), List.mem_of_getElem? (i := 1313) (by decide +kernel)⟩
theorem lw_p46 : lw_okq (⟨"ShareTicketsModel", "of", "(II)I"⟩, 20) := ⟨⟨by decide +kernel, by decide +kernel⟩, List.mem_of_getElem? (i := 1178) (by decide +kernel), List.mem_of_getElem? (i := 1316) (by decide +kernel), List.mem_of_getElem? (i := 1317) (by decide +kernel)⟩
theorem lw_p47 : lw_okq (⟨"ShareTicketsModel", "takes", "(II)I"⟩, 20) := ⟨⟨by decide +kernel, by decide +kernel⟩, List.mem_of_getElem? (i := 1178) (by decide +kernel), List.mem_of_getElem? (i := 1320) (by decide +kernel), List.mem_of_getElem? (i := 1321) (by decide +kernel)⟩
def lw_privs_3 : List (MethodName × Nat) := [(⟨"ShareTickets$Place", "keptWork", "(I)I"⟩, 9), (⟨"ShareTickets$Place", "workOn", "()V"⟩, 9), (⟨"ShareTickets$Place", "preemptJobs", "()V"⟩, 9), (⟨"ShareTickets$Place", "outweighs", "(II)Z"⟩, 9), (⟨"ShareTicketsModel", "begins", "()V"⟩, 20), (⟨"ShareTicketsModel", "becomes", "([II)V"⟩, 20), (⟨"ShareTicketsModel", "next", "()V"⟩, 20), (⟨"ShareTicketsModel", "see", "(I)I"⟩, 20), (⟨"ShareTicketsModel", "readsStatement", "()V"⟩, 20), (⟨"ShareTicketsModel", "isWord", "(Ljava/lang/String;)Z"⟩, 20), (⟨"ShareTicketsModel", "readsUser", "()V"⟩, 20), (⟨"ShareTicketsModel", "fails", "(I)V"⟩, 20), (⟨"ShareTicketsModel", "must", "(Z)V"⟩, 20), (⟨"ShareTicketsModel", "hasJobs", "(I)Z"⟩, 20), (⟨"ShareTicketsModel", "of", "(II)I"⟩, 20), (⟨"ShareTicketsModel", "takes", "(II)I"⟩, 20)]
theorem lw_r3 : ∀ q ∈ lw_privs_3, lw_okq q := List.forall_mem_cons.mpr ⟨lw_p32, List.forall_mem_cons.mpr ⟨lw_p33, List.forall_mem_cons.mpr ⟨lw_p34, List.forall_mem_cons.mpr ⟨lw_p35, List.forall_mem_cons.mpr ⟨lw_p36, List.forall_mem_cons.mpr ⟨lw_p37, List.forall_mem_cons.mpr ⟨lw_p38, List.forall_mem_cons.mpr ⟨lw_p39, List.forall_mem_cons.mpr ⟨lw_p40, List.forall_mem_cons.mpr ⟨lw_p41, List.forall_mem_cons.mpr ⟨lw_p42, List.forall_mem_cons.mpr ⟨lw_p43, List.forall_mem_cons.mpr ⟨lw_p44, List.forall_mem_cons.mpr ⟨lw_p45, List.forall_mem_cons.mpr ⟨lw_p46, List.forall_mem_cons.mpr ⟨lw_p47, fun _ h => absurd h List.not_mem_nil⟩⟩⟩⟩⟩⟩⟩⟩⟩⟩⟩⟩⟩⟩⟩⟩
theorem lw_p48 : lw_okq (⟨"ShareTicketsModel", "addsUser", "(II)V"⟩, 20) := ⟨⟨by decide +kernel, by decide +kernel⟩, List.mem_of_getElem? (i := 1178) (by decide +kernel), List.mem_of_getElem? (i := 1324) (by decide +kernel), List.mem_of_getElem? (i := 1325) (by decide +kernel)⟩
theorem lw_p49 : lw_okq (⟨"ShareTicketsModel", "readsMachine", "()V"⟩, 20) := ⟨⟨by decide +kernel, by decide +kernel⟩, List.mem_of_getElem? (i := 1178) (by decide +kernel), List.mem_of_getElem? (i := 1329) (by decide +kernel), List.mem_of_getElem? (i := 1330) (by decide +kernel)⟩
theorem lw_p50 : lw_okq (⟨"ShareTicketsModel", "readsJob", "()V"⟩, 20) := ⟨⟨by decide +kernel, by decide +kernel⟩, List.mem_of_getElem? (i := 1178) (by decide +kernel), List.mem_of_getElem? (i := 1334) (by decide +kernel), List.mem_of_getElem? (i := 1335) (by decide +kernel)⟩
theorem lw_p51 : lw_okq (⟨"ShareTicketsModel", "isLeaf", "(I)Z"⟩, 20) := ⟨⟨by decide +kernel, by decide +kernel⟩, List.mem_of_getElem? (i := 1178) (by decide +kernel), List.mem_of_getElem? (i := 1338) (by decide +kernel), List.mem_of_getElem? (i := 1339) (by decide +kernel)⟩
theorem lw_p52 : lw_okq (⟨"ShareTicketsModel", "childrenOf", "(I)I"⟩, 20) := ⟨⟨by decide +kernel, by decide +kernel⟩, List.mem_of_getElem? (i := 1178) (by decide +kernel), List.mem_of_getElem? (i := 1342) (by decide +kernel), List.mem_of_getElem? (i := 1343) (by decide +kernel)⟩
theorem lw_p53 : lw_okq (⟨"ShareTicketsModel", "addsJob", "(II)V"⟩, 20) := ⟨⟨by decide +kernel, by decide +kernel⟩, List.mem_of_getElem? (i := 1178) (by decide +kernel), List.mem_of_getElem? (i := 1346) (by decide +kernel), List.mem_of_getElem? (i := 1347) (by decide +kernel)⟩
theorem lw_p54 : lw_okq (⟨"ShareTicketsModel", "lays", "(III)V"⟩, 20) := ⟨⟨by decide +kernel, by decide +kernel⟩, List.mem_of_getElem? (i := 1178) (by decide +kernel), List.mem_of_getElem? (i := 1350) (by decide +kernel), List.mem_of_getElem? (i := 1351) (by decide +kernel)⟩
theorem lw_p55 : lw_okq (⟨"ShareTicketsModel", "readsSetting", "(I)V"⟩, 20) := ⟨⟨by decide +kernel, by decide +kernel⟩, List.mem_of_getElem? (i := 1178) (by decide +kernel), List.mem_of_getElem? (i := 1355) (by decide +kernel), List.mem_of_getElem? (i := 1356) (by decide +kernel)⟩
theorem lw_p56 : lw_okq (⟨"ShareTicketsModel", "fills", "()V"⟩, 20) := ⟨⟨by decide +kernel, by decide +kernel⟩, List.mem_of_getElem? (i := 1178) (by decide +kernel), List.mem_of_getElem? (i := 1367) (by decide +kernel), List.mem_of_getElem? (i := 1368) (by decide +kernel)⟩
theorem lw_p57 : lw_okq (⟨"ShareTicketsModel", "worksTickets", "()V"⟩, 20) := ⟨⟨by decide +kernel, by decide +kernel⟩, List.mem_of_getElem? (i := 1178) (by decide +kernel), List.mem_of_getElem? (i := 1371) (by decide +kernel), List.mem_of_getElem? (i := 1372) (by decide +kernel)⟩
theorem lw_p58 : lw_okq (⟨"ShareTicketsModel", "ticketsOf", "(I)I"⟩, 20) := ⟨⟨by decide +kernel, by decide +kernel⟩, List.mem_of_getElem? (i := 1178) (by decide +kernel), List.mem_of_getElem? (i := 1375) (by decide +kernel), List.mem_of_getElem? (i := 1376) (by decide +kernel)⟩
theorem lw_p59 : lw_okq (⟨"ShareTicketsModel", "baseOf", "(I)I"⟩, 20) := ⟨⟨by decide +kernel, by decide +kernel⟩, List.mem_of_getElem? (i := 1178) (by decide +kernel), List.mem_of_getElem? (i := 1379) (by decide +kernel), List.mem_of_getElem? (i := 1380) (by decide +kernel)⟩
theorem lw_p60 : lw_okq (⟨"ShareTicketsModel", "isLent", "(I)Z"⟩, 20) := ⟨⟨by decide +kernel, by decide +kernel⟩, List.mem_of_getElem? (i := 1178) (by decide +kernel), List.mem_of_getElem? (i := 1384) (by decide +kernel), List.mem_of_getElem? (i := 1385) (by decide +kernel)⟩
theorem lw_p61 : lw_okq (⟨"ShareTicketsModel", "lent", "(II)I"⟩, 20) := ⟨⟨by decide +kernel, by decide +kernel⟩, List.mem_of_getElem? (i := 1178) (by decide +kernel), List.mem_of_getElem? (i := 1388) (by decide +kernel), List.mem_of_getElem? (i := 1389) (by decide +kernel)⟩
theorem lw_p62 : lw_okq (⟨"ShareTicketsModel", "bestWaiting", "()I"⟩, 20) := ⟨⟨by decide +kernel, by decide +kernel⟩, List.mem_of_getElem? (i := 1178) (by decide +kernel), List.mem_of_getElem? (i := 1392) (by decide +kernel), List.mem_of_getElem? (i := 1393) (by decide +kernel)⟩
theorem lw_p63 : lw_okq (⟨"ShareTicketsModel", "jobWorth", "(I)J"⟩, 20) := ⟨⟨by decide +kernel, by decide +kernel⟩, List.mem_of_getElem? (i := 1178) (by decide +kernel), List.mem_of_getElem? (i := 1396) (by decide +kernel), List.mem_of_getElem? (i := 1397) (by decide +kernel)⟩
def lw_privs_4 : List (MethodName × Nat) := [(⟨"ShareTicketsModel", "addsUser", "(II)V"⟩, 20), (⟨"ShareTicketsModel", "readsMachine", "()V"⟩, 20), (⟨"ShareTicketsModel", "readsJob", "()V"⟩, 20), (⟨"ShareTicketsModel", "isLeaf", "(I)Z"⟩, 20), (⟨"ShareTicketsModel", "childrenOf", "(I)I"⟩, 20), (⟨"ShareTicketsModel", "addsJob", "(II)V"⟩, 20), (⟨"ShareTicketsModel", "lays", "(III)V"⟩, 20), (⟨"ShareTicketsModel", "readsSetting", "(I)V"⟩, 20), (⟨"ShareTicketsModel", "fills", "()V"⟩, 20), (⟨"ShareTicketsModel", "worksTickets", "()V"⟩, 20), (⟨"ShareTicketsModel", "ticketsOf", "(I)I"⟩, 20), (⟨"ShareTicketsModel", "baseOf", "(I)I"⟩, 20), (⟨"ShareTicketsModel", "isLent", "(I)Z"⟩, 20), (⟨"ShareTicketsModel", "lent", "(II)I"⟩, 20), (⟨"ShareTicketsModel", "bestWaiting", "()I"⟩, 20), (⟨"ShareTicketsModel", "jobWorth", "(I)J"⟩, 20)]
theorem lw_r4 : ∀ q ∈ lw_privs_4, lw_okq q := List.forall_mem_cons.mpr ⟨lw_p48, List.forall_mem_cons.mpr ⟨lw_p49, List.forall_mem_cons.mpr ⟨lw_p50, List.forall_mem_cons.mpr ⟨lw_p51, List.forall_mem_cons.mpr ⟨lw_p52, List.forall_mem_cons.mpr ⟨lw_p53, List.forall_mem_cons.mpr ⟨lw_p54, List.forall_mem_cons.mpr ⟨lw_p55, List.forall_mem_cons.mpr ⟨lw_p56, List.forall_mem_cons.mpr ⟨lw_p57, List.forall_mem_cons.mpr ⟨lw_p58, List.forall_mem_cons.mpr ⟨lw_p59, List.forall_mem_cons.mpr ⟨lw_p60, List.forall_mem_cons.mpr ⟨lw_p61, List.forall_mem_cons.mpr ⟨lw_p62, List.forall_mem_cons.mpr ⟨lw_p63, fun _ h => absurd h List.not_mem_nil⟩⟩⟩⟩⟩⟩⟩⟩⟩⟩⟩⟩⟩⟩⟩⟩
theorem lw_p64 : lw_okq (⟨"ShareTicketsModel", "loadOf", "(I)I"⟩, 20) := ⟨⟨by decide +kernel, by decide +kernel⟩, List.mem_of_getElem? (i := 1178) (by decide +kernel), List.mem_of_getElem? (i := 1400) (by decide +kernel), List.mem_of_getElem? (i := 1401) (by decide +kernel)⟩
theorem lw_p65 : lw_okq (⟨"ShareTicketsModel", "worthOf", "(II)J"⟩, 20) := ⟨⟨by decide +kernel, by decide +kernel⟩, List.mem_of_getElem? (i := 1178) (by decide +kernel), List.mem_of_getElem? (i := 1404) (by decide +kernel), List.mem_of_getElem? (i := 1405) (by decide +kernel)⟩
theorem lw_p66 : lw_okq (⟨"ShareTicketsModel", "freeMachine", "()I"⟩, 20) := ⟨⟨by decide +kernel, by decide +kernel⟩, List.mem_of_getElem? (i := 1178) (by decide +kernel), List.mem_of_getElem? (i := 1409) (by decide +kernel), List.mem_of_getElem? (i := 1410) (by decide +kernel)⟩
theorem lw_p67 : lw_okq (⟨"ShareTicketsModel", "runningOn", "(I)I"⟩, 20) := ⟨⟨by decide +kernel, by decide +kernel⟩, List.mem_of_getElem? (i := 1178) (by decide +kernel), List.mem_of_getElem? (i := 1413) (by decide +kernel), List.mem_of_getElem? (i := 1414) (by decide +kernel)⟩
theorem lw_p68 : lw_okq (⟨"ShareTicketsModel", "runs", "(II)V"⟩, 20) := ⟨⟨by decide +kernel, by decide +kernel⟩, List.mem_of_getElem? (i := 1178) (by decide +kernel), List.mem_of_getElem? (i := 1417) (by decide +kernel), List.mem_of_getElem? (i := 1418) (by decide +kernel)⟩
theorem lw_p69 : lw_okq (⟨"ShareTicketsModel", "keeps", "()V"⟩, 20) := ⟨⟨by decide +kernel, by decide +kernel⟩, List.mem_of_getElem? (i := 1178) (by decide +kernel), List.mem_of_getElem? (i := 1421) (by decide +kernel), List.mem_of_getElem? (i := 1422) (by decide +kernel)⟩
theorem lw_p70 : lw_okq (⟨"ShareTicketsModel", "isUser", "(I)Z"⟩, 20) := ⟨⟨by decide +kernel, by decide +kernel⟩, List.mem_of_getElem? (i := 1178) (by decide +kernel), List.mem_of_getElem? (i := 1433) (by decide +kernel), List.mem_of_getElem? (i := 1434) (by decide +kernel)⟩
theorem lw_p71 : lw_okq (⟨"ShareTicketsModel", "useOf", "(I)I"⟩, 20) := ⟨⟨by decide +kernel, by decide +kernel⟩, List.mem_of_getElem? (i := 1178) (by decide +kernel), List.mem_of_getElem? (i := 1437) (by decide +kernel), List.mem_of_getElem? (i := 1438) (by decide +kernel)⟩
theorem lw_p72 : lw_okq (⟨"ShareTicketsModel", "isBelow", "(II)Z"⟩, 20) := ⟨⟨by decide +kernel, by decide +kernel⟩, List.mem_of_getElem? (i := 1178) (by decide +kernel), List.mem_of_getElem? (i := 1441) (by decide +kernel), List.mem_of_getElem? (i := 1442) (by decide +kernel)⟩
theorem lw_p73 : lw_okq (⟨"ShareTicketsModel", "jobsOf", "(II)I"⟩, 20) := ⟨⟨by decide +kernel, by decide +kernel⟩, List.mem_of_getElem? (i := 1178) (by decide +kernel), List.mem_of_getElem? (i := 1445) (by decide +kernel), List.mem_of_getElem? (i := 1446) (by decide +kernel)⟩
theorem lw_p74 : lw_okq (⟨"ShareTicketsModel", "hasLoan", "(I)Z"⟩, 20) := ⟨⟨by decide +kernel, by decide +kernel⟩, List.mem_of_getElem? (i := 1178) (by decide +kernel), List.mem_of_getElem? (i := 1453) (by decide +kernel), List.mem_of_getElem? (i := 1454) (by decide +kernel)⟩
theorem lw_p75 : lw_okq (⟨"ShareTicketsModel", "cannotLend", "(III)Z"⟩, 20) := ⟨⟨by decide +kernel, by decide +kernel⟩, List.mem_of_getElem? (i := 1178) (by decide +kernel), List.mem_of_getElem? (i := 1466) (by decide +kernel), List.mem_of_getElem? (i := 1467) (by decide +kernel)⟩
theorem lw_p76 : lw_okq (⟨"ShareTicketsModel", "goneAt", "(I)I"⟩, 20) := ⟨⟨by decide +kernel, by decide +kernel⟩, List.mem_of_getElem? (i := 1178) (by decide +kernel), List.mem_of_getElem? (i := 1474) (by decide +kernel), List.mem_of_getElem? (i := 1475) (by decide +kernel)⟩
theorem lw_p77 : lw_okq (⟨"ShareTicketsModel", "isMachine", "(I)Z"⟩, 20) := ⟨⟨by decide +kernel, by decide +kernel⟩, List.mem_of_getElem? (i := 1178) (by decide +kernel), List.mem_of_getElem? (i := 1494) (by decide +kernel), List.mem_of_getElem? (i := 1495) (by decide +kernel)⟩
theorem lw_p78 : lw_okq (⟨"ShareTicketsModel", "leastRunning", "(I)I"⟩, 20) := ⟨⟨by decide +kernel, by decide +kernel⟩, List.mem_of_getElem? (i := 1178) (by decide +kernel), List.mem_of_getElem? (i := 1498) (by decide +kernel), List.mem_of_getElem? (i := 1499) (by decide +kernel)⟩
theorem lw_p79 : lw_okq (⟨"ShareTicketsModel", "isJob", "(I)Z"⟩, 20) := ⟨⟨by decide +kernel, by decide +kernel⟩, List.mem_of_getElem? (i := 1178) (by decide +kernel), List.mem_of_getElem? (i := 1506) (by decide +kernel), List.mem_of_getElem? (i := 1507) (by decide +kernel)⟩
def lw_privs_5 : List (MethodName × Nat) := [(⟨"ShareTicketsModel", "loadOf", "(I)I"⟩, 20), (⟨"ShareTicketsModel", "worthOf", "(II)J"⟩, 20), (⟨"ShareTicketsModel", "freeMachine", "()I"⟩, 20), (⟨"ShareTicketsModel", "runningOn", "(I)I"⟩, 20), (⟨"ShareTicketsModel", "runs", "(II)V"⟩, 20), (⟨"ShareTicketsModel", "keeps", "()V"⟩, 20), (⟨"ShareTicketsModel", "isUser", "(I)Z"⟩, 20), (⟨"ShareTicketsModel", "useOf", "(I)I"⟩, 20), (⟨"ShareTicketsModel", "isBelow", "(II)Z"⟩, 20), (⟨"ShareTicketsModel", "jobsOf", "(II)I"⟩, 20), (⟨"ShareTicketsModel", "hasLoan", "(I)Z"⟩, 20), (⟨"ShareTicketsModel", "cannotLend", "(III)Z"⟩, 20), (⟨"ShareTicketsModel", "goneAt", "(I)I"⟩, 20), (⟨"ShareTicketsModel", "isMachine", "(I)Z"⟩, 20), (⟨"ShareTicketsModel", "leastRunning", "(I)I"⟩, 20), (⟨"ShareTicketsModel", "isJob", "(I)Z"⟩, 20)]
theorem lw_r5 : ∀ q ∈ lw_privs_5, lw_okq q := List.forall_mem_cons.mpr ⟨lw_p64, List.forall_mem_cons.mpr ⟨lw_p65, List.forall_mem_cons.mpr ⟨lw_p66, List.forall_mem_cons.mpr ⟨lw_p67, List.forall_mem_cons.mpr ⟨lw_p68, List.forall_mem_cons.mpr ⟨lw_p69, List.forall_mem_cons.mpr ⟨lw_p70, List.forall_mem_cons.mpr ⟨lw_p71, List.forall_mem_cons.mpr ⟨lw_p72, List.forall_mem_cons.mpr ⟨lw_p73, List.forall_mem_cons.mpr ⟨lw_p74, List.forall_mem_cons.mpr ⟨lw_p75, List.forall_mem_cons.mpr ⟨lw_p76, List.forall_mem_cons.mpr ⟨lw_p77, List.forall_mem_cons.mpr ⟨lw_p78, List.forall_mem_cons.mpr ⟨lw_p79, fun _ h => absurd h List.not_mem_nil⟩⟩⟩⟩⟩⟩⟩⟩⟩⟩⟩⟩⟩⟩⟩⟩
theorem lw_p80 : lw_okq (⟨"ShareTicketsModel", "ends", "(II)V"⟩, 20) := ⟨⟨by decide +kernel, by decide +kernel⟩, List.mem_of_getElem? (i := 1178) (by decide +kernel), List.mem_of_getElem? (i := 1522) (by decide +kernel), List.mem_of_getElem? (i := 1523) (by decide +kernel)⟩
theorem lw_p81 : lw_okq (⟨"ShareTicketsModel", "interrupts", "(I)V"⟩, 20) := ⟨⟨by decide +kernel, by decide +kernel⟩, List.mem_of_getElem? (i := 1178) (by decide +kernel), List.mem_of_getElem? (i := 1530) (by decide +kernel), List.mem_of_getElem? (i := 1531) (by decide +kernel)⟩
theorem lw_p82 : lw_okq (⟨"ShareTicketsModel", "inState", "(I)I"⟩, 20) := ⟨⟨by decide +kernel, by decide +kernel⟩, List.mem_of_getElem? (i := 1178) (by decide +kernel), List.mem_of_getElem? (i := 1542) (by decide +kernel), List.mem_of_getElem? (i := 1543) (by decide +kernel)⟩
theorem lw_p83 : lw_okq (⟨"ShareTicketsModel", "freeSlots", "()I"⟩, 20) := ⟨⟨by decide +kernel, by decide +kernel⟩, List.mem_of_getElem? (i := 1178) (by decide +kernel), List.mem_of_getElem? (i := 1546) (by decide +kernel), List.mem_of_getElem? (i := 1547) (by decide +kernel)⟩
theorem lw_p84 : lw_okq (⟨"ShareTicketsModel", "ticksOnce", "()I"⟩, 20) := ⟨⟨by decide +kernel, by decide +kernel⟩, List.mem_of_getElem? (i := 1178) (by decide +kernel), List.mem_of_getElem? (i := 1554) (by decide +kernel), List.mem_of_getElem? (i := 1555) (by decide +kernel)⟩
theorem lw_p85 : lw_okq (⟨"ShareTicketsModel", "endsLoans", "()V"⟩, 20) := ⟨⟨by decide +kernel, by decide +kernel⟩, List.mem_of_getElem? (i := 1178) (by decide +kernel), List.mem_of_getElem? (i := 1558) (by decide +kernel), List.mem_of_getElem? (i := 1559) (by decide +kernel)⟩
theorem lw_p86 : lw_okq (⟨"ShareTicketsModel", "preempts", "()V"⟩, 20) := ⟨⟨by decide +kernel, by decide +kernel⟩, List.mem_of_getElem? (i := 1178) (by decide +kernel), List.mem_of_getElem? (i := 1562) (by decide +kernel), List.mem_of_getElem? (i := 1563) (by decide +kernel)⟩
theorem lw_p87 : lw_okq (⟨"ShareTicketsModel", "lackOf", "(I)I"⟩, 20) := ⟨⟨by decide +kernel, by decide +kernel⟩, List.mem_of_getElem? (i := 1178) (by decide +kernel), List.mem_of_getElem? (i := 1579) (by decide +kernel), List.mem_of_getElem? (i := 1580) (by decide +kernel)⟩
theorem lw_p88 : lw_okq (⟨"ShareTicketsModel", "says", "(I)V"⟩, 20) := ⟨⟨by decide +kernel, by decide +kernel⟩, List.mem_of_getElem? (i := 1178) (by decide +kernel), List.mem_of_getElem? (i := 1596) (by decide +kernel), List.mem_of_getElem? (i := 1597) (by decide +kernel)⟩
theorem lw_p89 : lw_okq (⟨"ShareTicketsModel", "saysJobs", "(I)V"⟩, 20) := ⟨⟨by decide +kernel, by decide +kernel⟩, List.mem_of_getElem? (i := 1178) (by decide +kernel), List.mem_of_getElem? (i := 1600) (by decide +kernel), List.mem_of_getElem? (i := 1601) (by decide +kernel)⟩
def lw_privs_6 : List (MethodName × Nat) := [(⟨"ShareTicketsModel", "ends", "(II)V"⟩, 20), (⟨"ShareTicketsModel", "interrupts", "(I)V"⟩, 20), (⟨"ShareTicketsModel", "inState", "(I)I"⟩, 20), (⟨"ShareTicketsModel", "freeSlots", "()I"⟩, 20), (⟨"ShareTicketsModel", "ticksOnce", "()I"⟩, 20), (⟨"ShareTicketsModel", "endsLoans", "()V"⟩, 20), (⟨"ShareTicketsModel", "preempts", "()V"⟩, 20), (⟨"ShareTicketsModel", "lackOf", "(I)I"⟩, 20), (⟨"ShareTicketsModel", "says", "(I)V"⟩, 20), (⟨"ShareTicketsModel", "saysJobs", "(I)V"⟩, 20)]
theorem lw_r6 : ∀ q ∈ lw_privs_6, lw_okq q := List.forall_mem_cons.mpr ⟨lw_p80, List.forall_mem_cons.mpr ⟨lw_p81, List.forall_mem_cons.mpr ⟨lw_p82, List.forall_mem_cons.mpr ⟨lw_p83, List.forall_mem_cons.mpr ⟨lw_p84, List.forall_mem_cons.mpr ⟨lw_p85, List.forall_mem_cons.mpr ⟨lw_p86, List.forall_mem_cons.mpr ⟨lw_p87, List.forall_mem_cons.mpr ⟨lw_p88, List.forall_mem_cons.mpr ⟨lw_p89, fun _ h => absurd h List.not_mem_nil⟩⟩⟩⟩⟩⟩⟩⟩⟩⟩
def lw_privs : List (MethodName × Nat) := lw_privs_1 ++ (lw_privs_2 ++ (lw_privs_3 ++ (lw_privs_4 ++ (lw_privs_5 ++ (lw_privs_6)))))
def lw_tbl : List Cond := k2_sels lw_privs ++ tables_1
theorem lw_privs_ok : ∀ q ∈ lw_privs, lw_okq q := by
  show ∀ q ∈ lw_privs_1 ++ (lw_privs_2 ++ (lw_privs_3 ++ (lw_privs_4 ++ (lw_privs_5 ++ (lw_privs_6))))), lw_okq q
  exact List.forall_mem_append.mpr ⟨lw_r1, List.forall_mem_append.mpr ⟨lw_r2, List.forall_mem_append.mpr ⟨lw_r3, List.forall_mem_append.mpr ⟨lw_r4, List.forall_mem_append.mpr ⟨lw_r5, lw_r6⟩⟩⟩⟩⟩
/-- the streams that the claim lets the run draw from -/
abbrev lw_cs : List Choice := [Jvm.Choice.named "NaN.bits"]
theorem lw_bits : nanBits ∈ lw_cs := by first | decide | exact List.mem_cons_self | simp [lw_cs, nanBits]
-- ===== end of PART A; then your names; then what follows =====
/-! ===== BEGIN words of one list among another's, by their places ===== -/
theorem goodIn_r {big : List Cond} (ws : List Cond) (ps : List Nat) (hp : ws = ps.filterMap (fun i => big[i]?)) (h : ws.all goodWord = true) : GoodIn big ws := by
  intro w hw
  have h1 := List.all_eq_true.mp h w hw
  rw [hp] at hw
  obtain ⟨i, -, hi⟩ := List.mem_filterMap.mp hw
  have hm : w ∈ big := by first | exact List.mem_of_getElem? hi | exact List.getElem?_mem hi
  exact ⟨hm, good_of_word h1⟩
theorem goodIn_app {big a b : List Cond} (ha : GoodIn big a) (hb : GoodIn big b) : GoodIn big (a ++ b) := fun w h => (List.mem_append.mp h).elim (ha w) (hb w)
theorem goodIn_ca {big a b : List Cond} {c : Cond} (ha : GoodIn big (c :: a)) (hb : GoodIn big b) : GoodIn big (c :: (a ++ b)) := fun w h => (List.mem_cons.mp h).elim (fun e => ha w (List.mem_cons.mpr (Or.inl e))) (fun h => (List.mem_append.mp h).elim (fun h => ha w (List.mem_cons.mpr (Or.inr h))) (hb w))
theorem goodIn_sub {big ws : List Cond} (hm : ∀ w ∈ ws, w ∈ big) (h : ws.all goodWord = true) : GoodIn big ws := fun w hw => ⟨hm w hw, good_of_word (List.all_eq_true.mp h w hw)⟩
/-! ===== END ===== -/

/-! ===== BEGIN exceptions that leave a method, and their catching by the caller (launches without stack traces) ===== -/
section VXA
/-! The laws vx_back, vx_callV, vx_callS, vx_callSW, vx_throw0, vx_throwS follow proofs of the library, with one case more: JvmDerived/Free/Laws.lean (Back.of_free), Shelf42/LK1.lean (callV, callS), Shelf/KitTraced.lean (throwNew0V, throwNewS). -/
/-- where a method has thrown q: the class by its name, the cell, what was written, the world -/
def vx_T (XC : String → State → State → Prop) (st : State) (q : Addr) (t : State) (mc ms : Nat) (free : Addr → Prop) : Prop :=
  ∃ (E : String) (ce : Cell) (L : List Loc), XC E st t ∧ t.heap[q]? = some ce ∧ ce.vm = .none ∧ st.vm.findClass E = some ce.cls ∧ st.WarmedH t.vm ∧ st.sameButNew ({ t with vm := st.vm } : State) L mc ms ∧ ∀ z ∈ L, free z.base
def vx_Q (Qc : Array Value → State → Outcome → State → Prop) (XC : String → State → State → Prop) (mc ms : Nat) (free : Addr → Prop) : Array Value → State → Outcome → State → Prop := fun a st o t =>
  (Qc a st o t ∧ ∃ L, FrameEnd st o t L mc ms ∧ ∀ q ∈ L, free q.base) ∨ ∃ q, o = .threw q ∧ vx_T XC st q t mc ms free
/-- a callee that returns or throws -/
def vx_Met (l : Launch) (y : MethodName) (ws : List Cond) (rm : Room) (Pc : Array Value → State → Prop) (Qc : Array Value → State → Outcome → State → Prop) (XC : String → State → State → Prop) (mc ms : Nat) (free : Addr → Prop) : Prop :=
  MetFree l y (headSpec ws rm) Pc (fun _ _ _ _ _ => True) (vx_Q Qc XC mc ms free)
def vx_Post (XC : String → State → State → Prop) (mc ms : Nat) (free : Addr → Prop) : Pt → Array Value → Addr → Pt → Prop := fun A a q B =>
  ∃ (g : JFrame) (mk : MethodId) (t : State) (L : List Loc) (E : String) (ce : Cell), B.U.heap = t.heap ∧ B.U.vm = t.vm ∧ XC E (A.U.calling g mk a) t ∧ t.heap[q]? = some ce ∧ ce.vm = .none ∧ A.U.vm.findClass E = some ce.cls ∧ B.locs = A.locs ++ L ∧ (∀ z ∈ L, free z.base) ∧ B.cells = A.cells + mc ∧ B.slots = A.slots + ms
def vx_Back (l : Launch) (R : Room) (p : Program) (e : Env) (below : List Frame) (s : State) (sargs : Array Value) (y : MethodName) (len W9 : Nat)
    (Pre : Pt → Array Value → Prop) (Post : Pt → Array Value → Option Value → Pt → Prop) (PostX : Pt → Array Value → Addr → Pt → Prop) : Prop :=
  ∀ (m : MethodId) (meth : Method) (c : Code) (A : Pt) (g : JFrame) (ig : Instr) (mk : MethodId) (a : Array Value),
    Stand p l e R s m sargs below meth c A.U A.locs A.cells A.slots → g.method = m → g.locals.size = c.maxLocals → decode c.code g.pc = .ok (ig, len) →
    2 * g.monitorRoom + (g.stack.map fun v => v.category).sum ≤ W9 → A.U.methodNamed? y = some mk → Pre A a →
    (∃ (v : Option Value) (B : Pt), Stand p l e R s m sargs below meth c B.U B.locs B.cells B.slots ∧ Post A a v B ∧
      Steps p.tables e below (doInvoke e (A.U.setTop g) [] mk a).1 (B.U.setTop { g with pc := g.pc + len, stack := v.toList ++ g.stack })) ∨
    (∃ (q : Addr) (B : Pt), Stand p l e R s m sargs below meth c B.U B.locs B.cells B.slots ∧ PostX A a q B ∧
      Steps p.tables e below (doInvoke e (A.U.setTop g) [] mk a).1 ((B.U.setTop g).pushFrame (.throwing q)))
section Payer
variable {l : Launch} {R : Room} {p : Program} {e : Env} {below : List Frame} {s : State} {sargs : Array Value} {y : MethodName} {len W9 : Nat}
theorem vx_back {ws : List Cond} {rm : Room} {Pc : Array Value → State → Prop} {Qc : Array Value → State → Outcome → State → Prop} {XC : String → State → State → Prop} {mc ms : Nat} {free : Addr → Prop} {bytes : ByteArray} {maxL : Nat} {ret : Option FieldType}
    (hM : vx_Met l y ws rm Pc Qc XC mc ms free) (hblind : FrameBlind Pc) (hrc : rm.cells = mc) (hrs : rm.slots = ms)
    (hframes : rm.frames + 1 ≤ R.frames) (hlocals : W9 + (maxL + 11) + rm.locals ≤ R.locals)
    (hws : ∀ w ∈ ws, ∀ a' U, s.WarmedH U.vm → w.before a' U = true) (hcode : Cond.code y bytes maxL ret ∈ ws) (hinit : ∀ a' U, s.WarmedH U.vm → (Cond.initialized y.cls).before a' U = true) :
    vx_Back l R p e below s sargs y len W9 (PreOf R mc ms Pc) (PostOf Qc mc ms free) (vx_Post XC mc ms free) := by
  intro m meth c A g ig mk a X hg hsize hdg hW hn hp
  have h1 : (headSpec ws rm).pre.before a A.U = true := atoms_intro fun w hw => hws w hw _ _ X.warmed
  have h2 : (Cond.code y bytes maxL ret).before a A.U = true := hws _ hcode _ _ X.warmed
  have h3 : (Cond.initialized y.cls).before a A.U = true := hinit _ _ X.warmed
  have h4 : A.cells + (headSpec ws rm).room.cells ≤ R.cells := by rw [show (headSpec ws rm).room.cells = mc from hrc]; exact hp.1
  have h5 : A.slots + (headSpec ws rm).room.slots ≤ R.slots := by rw [show (headSpec ws rm).room.slots = ms from hrs]; exact hp.2.1
  have hPc : Pc a (A.U.calling g mk a) := hblind _ _ _ _ hp.2.2
  obtain ⟨U, Ls, c0, s0⟩ := A
  dsimp only [Pt.U, Pt.locs, Pt.cells, Pt.slots] at h1 h2 h3 h4 h5 X hn hPc ⊢
  obtain ⟨methY, cY, hmY, hcY, -, hlY, -, -, -, -⟩ := Cond.code_spec hn h2
  obtain ⟨kY, hkY, -⟩ := className_of_methodNamed hn
  have hinitY : kY.init = .initialized := Cond.initialized_spec (findClass_of_methodNamed hn) hkY h3
  have h : At U g.method c below := by rw [hg]; exact X.here
  have hlocals9 : W9 + (maxL + 11) + (headSpec ws rm).room.locals ≤ R.locals := hlocals
  have happ : (headSpec ws rm).appliesLoose y e.platform (U.calling g mk a) = true :=
    Spec.appliesLoose_calling (g := g) h hdg hn hkY hinitY
      (X.room_calling (g := g) (R' := (headSpec ws rm).room) hsize hmY hcY hframes (by rw [hlY]; omega) h4 h5) h1
  obtain ⟨mid, hmid⟩ := h.above
  have hfr : (U.setTop g).frames = (.java g :: mid) ++ below := by rw [State.frames_setTop' g h.top, hmid]; rfl
  obtain ⟨o, s₂, hsteps, -, hend, hq⟩ := Steps.callFree hM p X.admits X.cas X.clock (acts := []) hfr happ hPc trivial
  have hq' : vx_Q Qc XC mc ms free a (U.calling g mk a) o s₂ := hq
  rw [State.frames_setTop' g h.top] at hend
  obtain ⟨g₀, hg0⟩ := Option.isSome_iff_exists.mp h.top
  obtain ⟨r, hr⟩ := State.topJava?_eq_some.mp hg0
  have hr' : (({ U with heap := s₂.heap, slotsUsed := s₂.slotsUsed } : State).setVm s₂.vm).frames = .java g₀ :: r := hr
  rcases hq' with ⟨hqc, L, hfe, hL⟩ | ⟨q, rfl, E, ce, L, hx, hce, hcv, hcl, hW₂, hsm, hL⟩
  · obtain ⟨⟨v, rfl⟩, hW₂, e2, q2, q3, q4, q5, q6⟩ := id hfe
    have e3 : s₂ = ({ (U.calling g mk a).setFrames s₂.frames with heap := s₂.heap, slotsUsed := s₂.slotsUsed } : State).setVm s₂.vm := by
      have : s₂ = ({ s₂ with vm := (U.calling g mk a).vm } : State).setVm s₂.vm := rfl
      rw [e2] at this
      exact this
    obtain ⟨c₂, i₂, len₂, hc₂, hd₂, hf₂⟩ := hend
    have hW' : U.WarmedH s₂.vm := hW₂
    have hcc : c₂ = c := by
      have h1 : s₂.code? g.method = U.code? g.method := by
        rw [State.code?_eq, State.code?_eq, hW'.alike.method?]
      exact Option.some.inj (hc₂.symm.trans (h1.trans h.code))
    subst hcc
    have hlen : len₂ = len := by rw [hdg] at hd₂; cases hd₂; rfl
    subst hlen
    have hs₂ : s₂ = (({ U with heap := s₂.heap, slotsUsed := s₂.slotsUsed } : State).setVm s₂.vm).setTop { g with pc := g.pc + len₂, stack := v.toList ++ g.stack } := by
      refine e3.trans ?_
      rw [hf₂, State.calling_eq h.top, State.setFrames_setFrames, State.setTop_of_frames _ hr', hr]
      rfl
    have hsame : U.sameButNew ({ U with heap := s₂.heap, slotsUsed := s₂.slotsUsed } : State) L mc ms := by
      refine ⟨?_, q2, q3, q4, q5, q6⟩
      obtain ⟨t, ht, -⟩ := State.frames_cons hr
      show ({ U with heap := s₂.heap, slotsUsed := s₂.slotsUsed } : State) = { U.setFrames U.frames with heap := s₂.heap, slotsUsed := s₂.slotsUsed }
      rw [State.setFrames_self ht]
    subst hg
    refine Or.inl ⟨v, ⟨(({ U with heap := s₂.heap, slotsUsed := s₂.slotsUsed } : State).setVm s₂.vm), Ls ++ L, c0 + mc, s0 + ms⟩,
      ⟨X.admits, X.cas, X.clock, X.frames, X.room, X.hears, X.method, X.code, (X.here.setHeapUsed s₂.heap s₂.slotsUsed).setVm hW'.alike, X.tail, State.WarmedH.trans X.warmed hW', X.limits, X.bytes, X.same.trans (hsame.setVm s.vm)⟩,
      ⟨g, mk, s₂, L, rfl, rfl, hqc, rfl, hL, rfl, rfl⟩, ?_⟩
    show Steps p.tables e below _ ((({ U with heap := s₂.heap, slotsUsed := s₂.slotsUsed } : State).setVm s₂.vm).setTop { g with pc := g.pc + len₂, stack := v.toList ++ g.stack })
    rw [← hs₂]
    exact hsteps
  · obtain ⟨e2, q2, q3, q4, q5, q6⟩ := id hsm
    have e3 : s₂ = ({ (U.calling g mk a).setFrames s₂.frames with heap := s₂.heap, slotsUsed := s₂.slotsUsed } : State).setVm s₂.vm := by
      have : s₂ = ({ s₂ with vm := (U.calling g mk a).vm } : State).setVm s₂.vm := rfl
      rw [e2] at this
      exact this
    have hf₂ : s₂.frames = .throwing q :: .java g :: U.frames.tail := hend
    have hW' : U.WarmedH s₂.vm := hW₂
    have hs₂ : s₂ = ((({ U with heap := s₂.heap, slotsUsed := s₂.slotsUsed } : State).setVm s₂.vm).setTop g).pushFrame (.throwing q) := by
      refine e3.trans ?_
      rw [hf₂, State.calling_eq h.top, State.setFrames_setFrames, State.pushFrame, State.frames_setTop _ hr', State.setTop_of_frames _ hr', State.setFrames_setFrames, hr]
      rfl
    have hsame : U.sameButNew ({ U with heap := s₂.heap, slotsUsed := s₂.slotsUsed } : State) L mc ms := by
      refine ⟨?_, q2, q3, q4, q5, q6⟩
      obtain ⟨t, ht, -⟩ := State.frames_cons hr
      show ({ U with heap := s₂.heap, slotsUsed := s₂.slotsUsed } : State) = { U.setFrames U.frames with heap := s₂.heap, slotsUsed := s₂.slotsUsed }
      rw [State.setFrames_self ht]
    subst hg
    refine Or.inr ⟨q, ⟨(({ U with heap := s₂.heap, slotsUsed := s₂.slotsUsed } : State).setVm s₂.vm), Ls ++ L, c0 + mc, s0 + ms⟩,
      ⟨X.admits, X.cas, X.clock, X.frames, X.room, X.hears, X.method, X.code, (X.here.setHeapUsed s₂.heap s₂.slotsUsed).setVm hW'.alike, X.tail, State.WarmedH.trans X.warmed hW', X.limits, X.bytes, X.same.trans (hsame.setVm s.vm)⟩,
      ⟨g, mk, s₂, L, E, ce, rfl, rfl, hx, hce, hcv, hcl, rfl, hL, rfl, rfl⟩, ?_⟩
    show Steps p.tables e below _ (((({ U with heap := s₂.heap, slotsUsed := s₂.slotsUsed } : State).setVm s₂.vm).setTop g).pushFrame (.throwing q))
    rw [← hs₂]
    exact hsteps
end Payer
section Calls
variable {p : Program} {l : Launch} {e : Env} {R : Room} {s : State} {m : MethodId} {args : Array Value} {below : List Frame} {meth : Method} {c : Code} {T : State} {locs : List Loc} {cells slots : Nat}
theorem vx_callV (X : Stand p l e R s m args below meth c T locs cells slots) (hexec : p.tables.exec = Jvm.exec) {own C : String} {index : Nat} {y : MethodName} {bytes : ByteArray} {maxL : Nat} {ret : Option FieldType}
    (hown : s.vm.findClass own = some m.cls) (hlink : (Cond.methodLink own index y).before args s = true) (hinst : (Cond.instanceMethod y).before args s = true) (hsel : (Cond.selects C y y).before args s = true)
    (hcode : (Cond.code y bytes maxL ret).before args s = true) (hy : y.cls ≠ "java/lang/invoke/MethodHandle" ∧ y.cls ≠ "java/lang/invoke/VarHandle")
    {W9 : Nat} {Pre : Pt → Array Value → Prop} {Post : Pt → Array Value → Option Value → Pt → Prop} {PostX : Pt → Array Value → Addr → Pt → Prop} (hK : vx_Back l R p e below s args y 3 W9 Pre Post PostX)
    {b : Addr} {cellB : Cell} (hcell : T.heap[b]? = some cellB) (hobj : cellB.vm.isStatics = false) (hcls : s.vm.findClass C = some cellB.cls)
    {g : JFrame} (hg : g.method = m) (hsize : g.locals.size = c.maxLocals) {argsL rest : List Value} (hlen : ∀ sig, parseMethodDescriptor y.desc = some sig → argsL.length = sig.parameters.length)
    (hstack : g.stack = argsL.reverse ++ .ref b :: rest) (hW : 2 * g.monitorRoom + (rest.map fun v => v.category).sum ≤ W9) (hdg : decode c.code g.pc = .ok (.invokevirtual index, 3))
    (hpre : ∀ vm₁, s.WarmedH vm₁ → Pre ⟨T.setVm vm₁, locs, cells, slots⟩ (Value.ref b :: argsL).toArray) :
    (∃ (v : Option Value) (vm₁ : Vm) (B : Pt), s.WarmedH vm₁ ∧ Stand p l e R s m args below meth c B.U B.locs B.cells B.slots ∧ Post ⟨T.setVm vm₁, locs, cells, slots⟩ (Value.ref b :: argsL).toArray v B ∧
      ∀ target, Steps p.tables e below (B.U.setTop { g with pc := g.pc + 3, stack := v.toList ++ rest }) target → Steps p.tables e below (T.setTop g) target) ∨
    (∃ (q : Addr) (vm₁ : Vm) (B : Pt), s.WarmedH vm₁ ∧ Stand p l e R s m args below meth c B.U B.locs B.cells B.slots ∧ PostX ⟨T.setVm vm₁, locs, cells, slots⟩ (Value.ref b :: argsL).toArray q B ∧
      Steps p.tables e below (T.setTop g) ((B.U.setTop { g with stack := rest }).pushFrame (.throwing q))) := by
  obtain ⟨mk, methM, hnamed, hmethM, hstM, habM⟩ := Cond.instanceMethod_spec hinst
  obtain ⟨methM', cM, hmethM', -, -, -, -, -, -, hsigM⟩ := Cond.code_spec hnamed hcode
  cases hmethM.symm.trans hmethM'
  obtain ⟨c2, r2, m2, q1, q2, q3, q4, kP, hkP, hkPi⟩ := Cond.selects_spec hsel
  cases hcls.symm.trans q1
  cases (State.methodFound?_of_named hnamed hy).symm.trans q2
  cases hnamed.symm.trans q3
  have hselP : selectMethod e.platform s.vm cellB.cls mk = .method mk := by rw [Launch.admits_selectMethod X.admits]; exact q4
  obtain ⟨vm₁, X₁, hstep₁⟩ := X.invokevirtual hexec hown hlink hnamed hmethM hstM hkP hkPi hy (a := b) (cell := cellB) hcell
    (fun z h => by rw [h] at hobj; cases hobj) hselP hmethM habM hkP hkPi (g := g) hg (argsL := argsL) (rest := rest) (hlen _ hsigM) hstack hdg
  rcases hK m meth c ⟨T.setVm vm₁, locs, cells, slots⟩ { g with stack := rest } (.invokevirtual index) mk (Value.ref b :: argsL).toArray X₁ hg hsize hdg hW (X₁.named hnamed) (hpre vm₁ X₁.warmed) with ⟨v, B, X', hpost, hsteps⟩ | ⟨q, B, X', hpost, hsteps⟩
  · exact Or.inl ⟨v, vm₁, B, X₁.warmed, X', hpost, fun target h => hstep₁ _ fun acts => by rw [doInvoke_state]; exact hsteps.trans h⟩
  · exact Or.inr ⟨q, vm₁, B, X₁.warmed, X', hpost, hstep₁ _ fun acts => by rw [doInvoke_state]; exact hsteps⟩
theorem vx_callS (X : Stand p l e R s m args below meth c T locs cells slots) (hexec : p.tables.exec = Jvm.exec) {own : String} {index : Nat} {y : MethodName} {bytes : ByteArray} {maxL : Nat} {ret : Option FieldType}
    (hown : s.vm.findClass own = some m.cls) (hlink : (Cond.methodLink own index y).before args s = true) (hstat : (Cond.static y).before args s = true) (hinit : (Cond.initialized y.cls).before args s = true)
    (hcode : (Cond.code y bytes maxL ret).before args s = true) (hy : y.cls ≠ "java/lang/invoke/MethodHandle" ∧ y.cls ≠ "java/lang/invoke/VarHandle")
    {W9 : Nat} {Pre : Pt → Array Value → Prop} {Post : Pt → Array Value → Option Value → Pt → Prop} {PostX : Pt → Array Value → Addr → Pt → Prop} (hK : vx_Back l R p e below s args y 3 W9 Pre Post PostX)
    {g : JFrame} (hg : g.method = m) (hsize : g.locals.size = c.maxLocals) {argsL rest : List Value} (hlen : ∀ sig, parseMethodDescriptor y.desc = some sig → argsL.length = sig.parameters.length)
    (hstack : g.stack = argsL.reverse ++ rest) (hW : 2 * g.monitorRoom + (rest.map fun v => v.category).sum ≤ W9) (hdg : decode c.code g.pc = .ok (.invokestatic index, 3))
    (hpre : ∀ vm₁, s.WarmedH vm₁ → Pre ⟨T.setVm vm₁, locs, cells, slots⟩ argsL.toArray) :
    (∃ (v : Option Value) (vm₁ : Vm) (B : Pt), s.WarmedH vm₁ ∧ Stand p l e R s m args below meth c B.U B.locs B.cells B.slots ∧ Post ⟨T.setVm vm₁, locs, cells, slots⟩ argsL.toArray v B ∧
      ∀ target, Steps p.tables e below (B.U.setTop { g with pc := g.pc + 3, stack := v.toList ++ rest }) target → Steps p.tables e below (T.setTop g) target) ∨
    (∃ (q : Addr) (vm₁ : Vm) (B : Pt), s.WarmedH vm₁ ∧ Stand p l e R s m args below meth c B.U B.locs B.cells B.slots ∧ PostX ⟨T.setVm vm₁, locs, cells, slots⟩ argsL.toArray q B ∧
      Steps p.tables e below (T.setTop g) ((B.U.setTop { g with stack := rest }).pushFrame (.throwing q))) := by
  obtain ⟨mk, hnamed⟩ := Cond.code_named hcode
  obtain ⟨methM, cM, hmethM, -, -, -, -, -, -, hsigM⟩ := Cond.code_spec hnamed hcode
  have hstatic : methM.isStatic = true := Cond.static_spec hnamed hmethM hstat
  obtain ⟨kP, hkP, -⟩ := className_of_methodNamed hnamed
  have hinitP : kP.init = .initialized := Cond.initialized_spec (findClass_of_methodNamed hnamed) hkP hinit
  obtain ⟨vm₁, X₁, hstep₁⟩ := X.invokestatic hexec hown hlink hnamed hmethM hstatic hkP hinitP hy (g := g) hg (argsL := argsL) (rest := rest) (hlen _ hsigM) hstack hdg
  rcases hK m meth c ⟨T.setVm vm₁, locs, cells, slots⟩ { g with stack := rest } (.invokestatic index) mk argsL.toArray X₁ hg hsize hdg hW (X₁.named hnamed) (hpre vm₁ X₁.warmed) with ⟨v, B, X', hpost, hsteps⟩ | ⟨q, B, X', hpost, hsteps⟩
  · exact Or.inl ⟨v, vm₁, B, X₁.warmed, X', hpost, fun target h => hstep₁ _ fun acts => by rw [doInvoke_state]; exact hsteps.trans h⟩
  · exact Or.inr ⟨q, vm₁, B, X₁.warmed, X', hpost, hstep₁ _ fun acts => by rw [doInvoke_state]; exact hsteps⟩
end Calls
theorem vx_cls {s : State} {T : State} {vm₁ : Vm} {E : String} {k : ClassId} (hW : s.WarmedH vm₁) (h : (T.setVm vm₁).vm.findClass E = some k) : s.vm.findClass E = some k := by
  have h1 : vm₁.findClass E = some k := h
  rw [hW.alike.findClass] at h1
  exact h1
/-- the method's frame g, with q thrown over it -/
def vx_W (p : Program) (l : Launch) (e : Env) (R : Room) (s : State) (m : MethodId) (args : Array Value) (below : List Frame) (meth : Method) (c : Code) (H : Heap) (locs : List Loc) (cells slots : Nat) (Q : State → Prop) (g : JFrame) (q : Addr) : Prop :=
  ∀ T : State, T.heap = H → Stand p l e R s m args below meth c T locs cells slots → ∃ t, Steps p.tables e below ((T.setTop g).pushFrame (.throwing q)) t ∧ Q t
def vx_Run (p : Program) (l : Launch) (e : Env) (R : Room) (s : State) (m : MethodId) (args : Array Value) (below : List Frame) (meth : Method) (c : Code) (H : Heap) (locs : List Loc) (cells slots mc ms : Nat) (g : JFrame) (rest : List Value) (Qa : State → Outcome → State → Prop) (XC : String → State → State → Prop) (free : Addr → Prop) : Prop :=
  ∀ T : State, T.heap = H → Stand p l e R s m args below meth c T locs cells slots →
    (∃ (v : Option Value) (st₀ t T' : State) (L : List Loc), st₀.heap = H ∧ Stand p l e R s m args below meth c T' (locs ++ L) (cells + mc) (slots + ms) ∧ (∀ q ∈ L, free q.base) ∧ T'.heap = t.heap ∧ T'.vm = t.vm ∧ Qa st₀ (.returned v) t ∧
      Goes p e below T g T' { g with pc := g.pc + 3, stack := v.toList ++ rest }) ∨
    (∃ (q : Addr) (st₀ t T' : State) (L : List Loc) (E : String) (ce : Cell), st₀.heap = H ∧ Stand p l e R s m args below meth c T' (locs ++ L) (cells + mc) (slots + ms) ∧ (∀ z ∈ L, free z.base) ∧ T'.heap = t.heap ∧ T'.vm = t.vm ∧ XC E st₀ t ∧ t.heap[q]? = some ce ∧ ce.vm = .none ∧ s.vm.findClass E = some ce.cls ∧
      Steps p.tables e below (T.setTop g) ((T'.setTop { g with stack := rest }).pushFrame (.throwing q)))
def vx_X {S : Type} (px : S → Prop) (B : String → S → State → Prop) (A : Nat → Prop) : String → State → State → Prop := fun E st t => ∃ u : S, px u ∧ B E u t ∧ va_F A st t
section Runs
variable {p : Program} {l : Launch} {e : Env} {R : Room} {s : State} {m : MethodId} {args : Array Value} {below : List Frame} {meth : Method} {c : Code} {H : Heap} {locs : List Loc} {cells slots : Nat}
variable {y : MethodName} {bytes cc : ByteArray} {maxL nL mc ms n index : Nat} {ret : Option FieldType} {ws : List Cond} {rm : Room} {Pc : Array Value → State → Prop} {Qc : Array Value → State → Outcome → State → Prop} {XC : String → State → State → Prop} {free : Addr → Prop} {Ts : List Cond} {own C : String} {b : Addr} {As rest : List Value} {g : JFrame}
theorem vx_callBack (cb : CallB R s args own index y bytes maxL ret ws rm mc ms n) (hM : vx_Met l y ws rm Pc Qc XC mc ms free) (hbl : FrameBlind Pc) : vx_Back l R p e below s args y 3 8 (PreOf R mc ms Pc) (PostOf Qc mc ms free) (vx_Post XC mc ms free) := by
  obtain ⟨hrc, hrs, hfr, hlo, hws, hcw, -, hini, -⟩ := cb
  exact vx_back (bytes := bytes) (maxL := maxL) (ret := ret) hM hbl hrc hrs hfr hlo hws hcw (fun a' U hW => word_at hW (Or.inl (by first | rfl | simp [Cond.onTables, Cond.keeps, Cond.steady])) hini)
theorem vx_runV (S : CallFix p m c cc nL s args Ts own) (hM : vx_Met l y ws rm Pc Qc XC mc ms free) (cw : CallW R s args own C index y bytes maxL ret ws rm mc ms n) (hp : PreV s H C b Pc As)
    (hg : g.method = m) (hn : As.length = n) (hsize : g.locals.size = nL) (hstack : g.stack = As.reverse ++ .ref b :: rest) (hW : 2 * g.monitorRoom + (rest.map fun v => v.category).sum ≤ 8) (hdg : decode cc g.pc = .ok (.invokevirtual index, 3)) (hf : cells + mc ≤ R.cells ∧ slots + ms ≤ R.slots) :
    vx_Run p l e R s m args below meth c H locs cells slots mc ms g rest (Qc (Value.ref b :: As).toArray) XC free := by
  have hK : vx_Back l R p e below s args y 3 8 (PreOf R mc ms Pc) (PostOf Qc mc ms free) (vx_Post XC mc ms free) := vx_callBack cw.1 hM hp.1
  obtain ⟨⟨-, -, -, -, -, -, hcode, -, hy, hlen, hl⟩, hin, hse⟩ := cw
  obtain ⟨hx, hb, hml, ho, -⟩ := S
  obtain ⟨-, ⟨cellB, hcB, hoB, hclB⟩, hPc⟩ := hp
  intro T hT X
  rcases vx_callV X hx (C := C) (bytes := bytes) (maxL := maxL) (ret := ret) ho hl hin hse hcode hy hK (by rw [hT]; exact hcB) hoB hclB hg (hsize.trans hml.symm) (argsL := As) (rest := rest) (fun sig h => hn.trans (hlen sig h)) hstack hW (by rw [hb]; exact hdg)
    (fun vm₁ hW₁ => ⟨hf.1, hf.2, hPc (T.setVm vm₁) hT hW₁⟩) with ⟨v, vm₁, ⟨U', l2, c2, s2⟩, hW₁, X', ⟨g', mk, t, L, e1, e2, hq, h1, hL, h2, h3⟩, st⟩ | ⟨q, vm₁, ⟨U', l2, c2, s2⟩, hW₁, X', ⟨g', mk, t, L, E, ce, e1, e2, hq, hce, hcv, hcl, h1, hL, h2, h3⟩, st⟩
  · dsimp only [Pt.U, Pt.locs, Pt.cells, Pt.slots] at X' e1 e2 h1 h2 h3 st
    subst h1; subst h2; subst h3
    exact Or.inl ⟨v, (T.setVm vm₁).calling g' mk (Value.ref b :: As).toArray, t, U', L, hT, X', hL, e1, e2, hq, st⟩
  · dsimp only [Pt.U, Pt.locs, Pt.cells, Pt.slots] at X' e1 e2 h1 h2 h3 st hcl
    subst h1; subst h2; subst h3
    exact Or.inr ⟨q, (T.setVm vm₁).calling g' mk (Value.ref b :: As).toArray, t, U', L, E, ce, hT, X', hL, e1, e2, hq, hce, hcv, vx_cls hW₁ hcl, st⟩
theorem vx_runS (S : CallFix p m c cc nL s args Ts own) (hM : vx_Met l y ws rm Pc Qc XC mc ms free) (cw : CallB R s args own index y bytes maxL ret ws rm mc ms n ∧ (Cond.static y).before args s = true) (hp : PreS s H Pc As)
    (hg : g.method = m) (hn : As.length = n) (hsize : g.locals.size = nL) (hstack : g.stack = As.reverse ++ rest) (hW : 2 * g.monitorRoom + (rest.map fun v => v.category).sum ≤ 8) (hdg : decode cc g.pc = .ok (.invokestatic index, 3)) (hf : cells + mc ≤ R.cells ∧ slots + ms ≤ R.slots) :
    vx_Run p l e R s m args below meth c H locs cells slots mc ms g rest (Qc As.toArray) XC free := by
  have hK : vx_Back l R p e below s args y 3 8 (PreOf R mc ms Pc) (PostOf Qc mc ms free) (vx_Post XC mc ms free) := vx_callBack cw.1 hM hp.1
  obtain ⟨⟨-, -, -, -, -, -, hcode, hini, hy, hlen, hl⟩, hstt⟩ := cw
  obtain ⟨hx, hb, hml, ho, -⟩ := S
  intro T hT X
  rcases vx_callS X hx (bytes := bytes) (maxL := maxL) (ret := ret) ho hl hstt hini hcode hy hK hg (hsize.trans hml.symm) (argsL := As) (rest := rest) (fun sig h => hn.trans (hlen sig h)) hstack hW (by rw [hb]; exact hdg)
    (fun vm₁ hW₁ => ⟨hf.1, hf.2, hp.2 (T.setVm vm₁) hT hW₁⟩) with ⟨v, vm₁, ⟨U', l2, c2, s2⟩, hW₁, X', ⟨g', mk, t, L, e1, e2, hq, h1, hL, h2, h3⟩, st⟩ | ⟨q, vm₁, ⟨U', l2, c2, s2⟩, hW₁, X', ⟨g', mk, t, L, E, ce, e1, e2, hq, hce, hcv, hcl, h1, hL, h2, h3⟩, st⟩
  · dsimp only [Pt.U, Pt.locs, Pt.cells, Pt.slots] at X' e1 e2 h1 h2 h3 st
    subst h1; subst h2; subst h3
    exact Or.inl ⟨v, (T.setVm vm₁).calling g' mk As.toArray, t, U', L, hT, X', hL, e1, e2, hq, st⟩
  · dsimp only [Pt.U, Pt.locs, Pt.cells, Pt.slots] at X' e1 e2 h1 h2 h3 st hcl
    subst h1; subst h2; subst h3
    exact Or.inr ⟨q, (T.setVm vm₁).calling g' mk As.toArray, t, U', L, E, ce, hT, X', hL, e1, e2, hq, hce, hcv, vx_cls hW₁ hcl, st⟩
end Runs
section Rows
variable {p : Program} {l : Launch} {e : Env} {R : Room} {s : State} {m : MethodId} {args : Array Value} {below : List Frame} {meth : Method} {c : Code} {H : Heap} {locs : List Loc} {cells slots : Nat} {Q : State → Prop}
variable {mc ms : Nat} {free : Addr → Prop} {A0 A1 : Nat → Prop} {H0 : Heap} {a : Array Value} {pc : Nat} {ls : Array Slot} {st0 rest : List Value}
theorem vx_keep {st₀ t T' : State} {L : List Loc} (h0 : st₀.heap = H) (e1 : T'.heap = t.heap) (hS : va_S A0 H0 H locs) (hA : ∀ q, q < H.size → A1 q → A0 q) (hf : ∀ q, free q → A0 q) (hL : ∀ q ∈ L, free q.base) (hF : va_F A1 st₀ t) :
    H.size ≤ T'.heap.size ∧ (∀ q : Nat, q < H.size → ¬ A1 q → T'.heap[q]? = H[q]?) ∧ va_S A0 H0 T'.heap (locs ++ L) := by
  obtain ⟨hz, hk⟩ := hF
  rw [h0] at hz hk
  exact ⟨by rw [e1]; exact hz, fun q h1 h2 => by rw [e1]; exact hk q h1 h2,
    ⟨Nat.le_trans hS.1 (by rw [e1]; exact hz), fun q h1 h2 => by rw [e1, hk q (Nat.lt_of_lt_of_le h1 hS.1) (fun z => h2 (hA q (Nat.lt_of_lt_of_le h1 hS.1) z))]; exact hS.2.1 q h1 h2, fun q hq => by
      rcases List.mem_append.mp hq with h | h
      · exact hS.2.2 q h
      · exact hf _ (hL q h)⟩⟩
theorem vx_calli {S SX : Type} {post : Int32 → S → Prop} {px : SX → Prop} {B : S → State → Prop} {BX : String → SX → State → Prop} {AX : Nat → Prop} (hr : vx_Run p l e R s m args below meth c H locs cells slots mc ms (F0 m pc ls st0) rest (va_Qi post B A1 a) (vx_X px BX AX) free) (hS : va_S A0 H0 H locs) (hA : ∀ q, q < H.size → A1 q → A0 q) (hf : ∀ q, free q → A0 q) (hAX : ∀ q, q < H.size → AX q → A0 q)
    (kx : ∀ (E : String) (ce : Cell) (q9 : Addr) (u : SX) (t : State) (H1 : Heap) (locs1 : List Loc), t.heap = H1 → s.vm.Alike t.vm → px u → BX E u t → H.size ≤ H1.size → (∀ q : Nat, q < H.size → ¬ AX q → H1[q]? = H[q]?) → va_S A0 H0 H1 locs1 → H1[q9]? = some ce → ce.vm = .none → s.vm.findClass E = some ce.cls → vx_W p l e R s m args below meth c H1 locs1 (cells + mc) (slots + ms) Q (F0 m pc ls rest) q9)
    (kk : ∀ (r : Int32) (u : S) (t : State) (H1 : Heap) (locs1 : List Loc), t.heap = H1 → s.vm.Alike t.vm → post r u → B u t → H.size ≤ H1.size → (∀ q : Nat, q < H.size → ¬ A1 q → H1[q]? = H[q]?) → va_S A0 H0 H1 locs1 → W p l e R s m args below meth c H1 locs1 (cells + mc) (slots + ms) Q (F0 m (pc + 3) ls (.int r :: rest))) : W p l e R s m args below meth c H locs cells slots Q (F0 m pc ls st0) := by
  intro T hT X
  rcases hr T hT X with ⟨v, st₀, t, T', L, h0, X', hL, e1, e2, ⟨⟨r, u, hv, hp, hb⟩, hF⟩, st⟩ | ⟨q, st₀, t, T', L, E, ce, h0, X', hL, e1, e2, ⟨u, hp, hb, hF⟩, hce, hcv, hcl, st⟩
  · cases hv
    obtain ⟨k1, k2, k3⟩ := vx_keep h0 e1 hS hA hf hL hF
    obtain ⟨t2, a1, b1⟩ := kk r u t T'.heap (locs ++ L) e1.symm (by rw [← e2]; exact X'.warmed.alike) hp hb k1 k2 k3 T' rfl X'
    exact ⟨t2, st t2 a1, b1⟩
  · obtain ⟨k1, k2, k3⟩ := vx_keep h0 e1 hS hAX hf hL hF
    obtain ⟨t2, a1, b1⟩ := kx E ce q u t T'.heap (locs ++ L) e1.symm (by rw [← e2]; exact X'.warmed.alike) hp hb k1 k2 k3 (by rw [e1]; exact hce) hcv hcl T' rfl X'
    exact ⟨t2, st.trans a1, b1⟩
theorem vx_calll {S SX : Type} {post : Int64 → S → Prop} {px : SX → Prop} {B : S → State → Prop} {BX : String → SX → State → Prop} {AX : Nat → Prop} (hr : vx_Run p l e R s m args below meth c H locs cells slots mc ms (F0 m pc ls st0) rest (va_Ql post B A1 a) (vx_X px BX AX) free) (hS : va_S A0 H0 H locs) (hA : ∀ q, q < H.size → A1 q → A0 q) (hf : ∀ q, free q → A0 q) (hAX : ∀ q, q < H.size → AX q → A0 q)
    (kx : ∀ (E : String) (ce : Cell) (q9 : Addr) (u : SX) (t : State) (H1 : Heap) (locs1 : List Loc), t.heap = H1 → s.vm.Alike t.vm → px u → BX E u t → H.size ≤ H1.size → (∀ q : Nat, q < H.size → ¬ AX q → H1[q]? = H[q]?) → va_S A0 H0 H1 locs1 → H1[q9]? = some ce → ce.vm = .none → s.vm.findClass E = some ce.cls → vx_W p l e R s m args below meth c H1 locs1 (cells + mc) (slots + ms) Q (F0 m pc ls rest) q9)
    (kk : ∀ (r : Int64) (u : S) (t : State) (H1 : Heap) (locs1 : List Loc), t.heap = H1 → s.vm.Alike t.vm → post r u → B u t → H.size ≤ H1.size → (∀ q : Nat, q < H.size → ¬ A1 q → H1[q]? = H[q]?) → va_S A0 H0 H1 locs1 → W p l e R s m args below meth c H1 locs1 (cells + mc) (slots + ms) Q (F0 m (pc + 3) ls (.long r :: rest))) : W p l e R s m args below meth c H locs cells slots Q (F0 m pc ls st0) := by
  intro T hT X
  rcases hr T hT X with ⟨v, st₀, t, T', L, h0, X', hL, e1, e2, ⟨⟨r, u, hv, hp, hb⟩, hF⟩, st⟩ | ⟨q, st₀, t, T', L, E, ce, h0, X', hL, e1, e2, ⟨u, hp, hb, hF⟩, hce, hcv, hcl, st⟩
  · cases hv
    obtain ⟨k1, k2, k3⟩ := vx_keep h0 e1 hS hA hf hL hF
    obtain ⟨t2, a1, b1⟩ := kk r u t T'.heap (locs ++ L) e1.symm (by rw [← e2]; exact X'.warmed.alike) hp hb k1 k2 k3 T' rfl X'
    exact ⟨t2, st t2 a1, b1⟩
  · obtain ⟨k1, k2, k3⟩ := vx_keep h0 e1 hS hAX hf hL hF
    obtain ⟨t2, a1, b1⟩ := kx E ce q u t T'.heap (locs ++ L) e1.symm (by rw [← e2]; exact X'.warmed.alike) hp hb k1 k2 k3 (by rw [e1]; exact hce) hcv hcl T' rfl X'
    exact ⟨t2, st.trans a1, b1⟩
theorem vx_callf {S SX : Type} {post : UInt32 → S → Prop} {px : SX → Prop} {B : S → State → Prop} {BX : String → SX → State → Prop} {AX : Nat → Prop} (hr : vx_Run p l e R s m args below meth c H locs cells slots mc ms (F0 m pc ls st0) rest (va_Qf post B A1 a) (vx_X px BX AX) free) (hS : va_S A0 H0 H locs) (hA : ∀ q, q < H.size → A1 q → A0 q) (hf : ∀ q, free q → A0 q) (hAX : ∀ q, q < H.size → AX q → A0 q)
    (kx : ∀ (E : String) (ce : Cell) (q9 : Addr) (u : SX) (t : State) (H1 : Heap) (locs1 : List Loc), t.heap = H1 → s.vm.Alike t.vm → px u → BX E u t → H.size ≤ H1.size → (∀ q : Nat, q < H.size → ¬ AX q → H1[q]? = H[q]?) → va_S A0 H0 H1 locs1 → H1[q9]? = some ce → ce.vm = .none → s.vm.findClass E = some ce.cls → vx_W p l e R s m args below meth c H1 locs1 (cells + mc) (slots + ms) Q (F0 m pc ls rest) q9)
    (kk : ∀ (r : UInt32) (u : S) (t : State) (H1 : Heap) (locs1 : List Loc), t.heap = H1 → s.vm.Alike t.vm → post r u → B u t → H.size ≤ H1.size → (∀ q : Nat, q < H.size → ¬ A1 q → H1[q]? = H[q]?) → va_S A0 H0 H1 locs1 → W p l e R s m args below meth c H1 locs1 (cells + mc) (slots + ms) Q (F0 m (pc + 3) ls (.float r :: rest))) : W p l e R s m args below meth c H locs cells slots Q (F0 m pc ls st0) := by
  intro T hT X
  rcases hr T hT X with ⟨v, st₀, t, T', L, h0, X', hL, e1, e2, ⟨⟨r, u, hv, hp, hb⟩, hF⟩, st⟩ | ⟨q, st₀, t, T', L, E, ce, h0, X', hL, e1, e2, ⟨u, hp, hb, hF⟩, hce, hcv, hcl, st⟩
  · cases hv
    obtain ⟨k1, k2, k3⟩ := vx_keep h0 e1 hS hA hf hL hF
    obtain ⟨t2, a1, b1⟩ := kk r u t T'.heap (locs ++ L) e1.symm (by rw [← e2]; exact X'.warmed.alike) hp hb k1 k2 k3 T' rfl X'
    exact ⟨t2, st t2 a1, b1⟩
  · obtain ⟨k1, k2, k3⟩ := vx_keep h0 e1 hS hAX hf hL hF
    obtain ⟨t2, a1, b1⟩ := kx E ce q u t T'.heap (locs ++ L) e1.symm (by rw [← e2]; exact X'.warmed.alike) hp hb k1 k2 k3 (by rw [e1]; exact hce) hcv hcl T' rfl X'
    exact ⟨t2, st.trans a1, b1⟩
theorem vx_calld {S SX : Type} {post : UInt64 → S → Prop} {px : SX → Prop} {B : S → State → Prop} {BX : String → SX → State → Prop} {AX : Nat → Prop} (hr : vx_Run p l e R s m args below meth c H locs cells slots mc ms (F0 m pc ls st0) rest (va_Qd post B A1 a) (vx_X px BX AX) free) (hS : va_S A0 H0 H locs) (hA : ∀ q, q < H.size → A1 q → A0 q) (hf : ∀ q, free q → A0 q) (hAX : ∀ q, q < H.size → AX q → A0 q)
    (kx : ∀ (E : String) (ce : Cell) (q9 : Addr) (u : SX) (t : State) (H1 : Heap) (locs1 : List Loc), t.heap = H1 → s.vm.Alike t.vm → px u → BX E u t → H.size ≤ H1.size → (∀ q : Nat, q < H.size → ¬ AX q → H1[q]? = H[q]?) → va_S A0 H0 H1 locs1 → H1[q9]? = some ce → ce.vm = .none → s.vm.findClass E = some ce.cls → vx_W p l e R s m args below meth c H1 locs1 (cells + mc) (slots + ms) Q (F0 m pc ls rest) q9)
    (kk : ∀ (r : UInt64) (u : S) (t : State) (H1 : Heap) (locs1 : List Loc), t.heap = H1 → s.vm.Alike t.vm → post r u → B u t → H.size ≤ H1.size → (∀ q : Nat, q < H.size → ¬ A1 q → H1[q]? = H[q]?) → va_S A0 H0 H1 locs1 → W p l e R s m args below meth c H1 locs1 (cells + mc) (slots + ms) Q (F0 m (pc + 3) ls (.double r :: rest))) : W p l e R s m args below meth c H locs cells slots Q (F0 m pc ls st0) := by
  intro T hT X
  rcases hr T hT X with ⟨v, st₀, t, T', L, h0, X', hL, e1, e2, ⟨⟨r, u, hv, hp, hb⟩, hF⟩, st⟩ | ⟨q, st₀, t, T', L, E, ce, h0, X', hL, e1, e2, ⟨u, hp, hb, hF⟩, hce, hcv, hcl, st⟩
  · cases hv
    obtain ⟨k1, k2, k3⟩ := vx_keep h0 e1 hS hA hf hL hF
    obtain ⟨t2, a1, b1⟩ := kk r u t T'.heap (locs ++ L) e1.symm (by rw [← e2]; exact X'.warmed.alike) hp hb k1 k2 k3 T' rfl X'
    exact ⟨t2, st t2 a1, b1⟩
  · obtain ⟨k1, k2, k3⟩ := vx_keep h0 e1 hS hAX hf hL hF
    obtain ⟨t2, a1, b1⟩ := kx E ce q u t T'.heap (locs ++ L) e1.symm (by rw [← e2]; exact X'.warmed.alike) hp hb k1 k2 k3 (by rw [e1]; exact hce) hcv hcl T' rfl X'
    exact ⟨t2, st.trans a1, b1⟩
theorem vx_callv {S SX : Type} {post : S → Prop} {px : SX → Prop} {B : S → State → Prop} {BX : String → SX → State → Prop} {AX : Nat → Prop} (hr : vx_Run p l e R s m args below meth c H locs cells slots mc ms (F0 m pc ls st0) rest (va_Qv post B A1 a) (vx_X px BX AX) free) (hS : va_S A0 H0 H locs) (hA : ∀ q, q < H.size → A1 q → A0 q) (hf : ∀ q, free q → A0 q) (hAX : ∀ q, q < H.size → AX q → A0 q)
    (kx : ∀ (E : String) (ce : Cell) (q9 : Addr) (u : SX) (t : State) (H1 : Heap) (locs1 : List Loc), t.heap = H1 → s.vm.Alike t.vm → px u → BX E u t → H.size ≤ H1.size → (∀ q : Nat, q < H.size → ¬ AX q → H1[q]? = H[q]?) → va_S A0 H0 H1 locs1 → H1[q9]? = some ce → ce.vm = .none → s.vm.findClass E = some ce.cls → vx_W p l e R s m args below meth c H1 locs1 (cells + mc) (slots + ms) Q (F0 m pc ls rest) q9)
    (kk : ∀ (u : S) (t : State) (H1 : Heap) (locs1 : List Loc), t.heap = H1 → s.vm.Alike t.vm → post u → B u t → H.size ≤ H1.size → (∀ q : Nat, q < H.size → ¬ A1 q → H1[q]? = H[q]?) → va_S A0 H0 H1 locs1 → W p l e R s m args below meth c H1 locs1 (cells + mc) (slots + ms) Q (F0 m (pc + 3) ls (rest))) : W p l e R s m args below meth c H locs cells slots Q (F0 m pc ls st0) := by
  intro T hT X
  rcases hr T hT X with ⟨v, st₀, t, T', L, h0, X', hL, e1, e2, ⟨⟨u, hv, hp, hb⟩, hF⟩, st⟩ | ⟨q, st₀, t, T', L, E, ce, h0, X', hL, e1, e2, ⟨u, hp, hb, hF⟩, hce, hcv, hcl, st⟩
  · cases hv
    obtain ⟨k1, k2, k3⟩ := vx_keep h0 e1 hS hA hf hL hF
    obtain ⟨t2, a1, b1⟩ := kk u t T'.heap (locs ++ L) e1.symm (by rw [← e2]; exact X'.warmed.alike) hp hb k1 k2 k3 T' rfl X'
    exact ⟨t2, st t2 a1, b1⟩
  · obtain ⟨k1, k2, k3⟩ := vx_keep h0 e1 hS hAX hf hL hF
    obtain ⟨t2, a1, b1⟩ := kx E ce q u t T'.heap (locs ++ L) e1.symm (by rw [← e2]; exact X'.warmed.alike) hp hb k1 k2 k3 (by rw [e1]; exact hce) hcv hcl T' rfl X'
    exact ⟨t2, st.trans a1, b1⟩
/-- caught by the row x of this method's table; the rows ahead don't take it -/
theorem vx_catch {own name : String} {E : String} {ce : Cell} {q : Addr} (hown : s.vm.findClass own = some m.cls) (pre : List ExceptionTableEntry) (x : ExceptionTableEntry) (suf : List ExceptionTableEntry) (hsplit : c.exceptionTable.toList = pre ++ x :: suf)
    (hpass : ∀ z ∈ pre, covers z pc = false ∨ (z.catchType ≠ 0 ∧ ∃ nm : String, (Cond.classLink own z.catchType nm).before args s = true ∧ va_Nc E nm s)) (hx : covers x pc = true) (h0 : x.catchType ≠ 0)
    (hlink : (Cond.classLink own x.catchType name).before args s = true) (hcast : (Cond.castable E name).before args s = true) (hcell : H[q]? = some ce) (hv : ce.vm = .none) (hcl : s.vm.findClass E = some ce.cls)
    (kk : W p l e R s m args below meth c H locs cells slots Q (F0 m x.handlerPc ls [.ref q])) : vx_W p l e R s m args below meth c H locs cells slots Q (F0 m pc ls rest) q := by
  intro T hT X
  have hpl : e.platform.magicAccessors = ({} : Platform).magicAccessors := by rw [X.admits.platform]
  obtain ⟨c3, c4, hc3, hc4, hasg⟩ := Cond.castable_spec hcast
  cases Option.some.inj (hc3.symm.trans hcl)
  obtain ⟨c5, hc5, hcl5⟩ := Cond.classLink_spec hown hlink e.platform hpl
  cases Option.some.inj (hc4.symm.trans hc5)
  obtain ⟨vm', X', st⟩ := X.thenCaughtThrough q (g := F0 m pc ls rest) rfl (Steps.refl _) (by rw [hT]; exact hcell) (by rw [hv]; rfl) (by obtain ⟨k9, h9, -⟩ := Vm.findClass_spec hcl; exact ⟨k9, h9⟩) pre x suf hsplit
    (fun z hz => by
      rcases hpass z hz with h | ⟨hz0, nm, hl1, hn1⟩
      · exact Or.inl h
      · obtain ⟨c6, hc6, hcl6⟩ := Cond.classLink_spec hown hl1 e.platform hpl
        obtain ⟨a8, b8, h1, h2, h3⟩ := hn1
        cases Option.some.inj (h1.symm.trans hcl)
        cases Option.some.inj (h2.symm.trans hc6)
        exact Or.inr ⟨hz0, _, hcl6, h3⟩) hx (Or.inr ⟨h0, c4, hcl5, hasg⟩)
  obtain ⟨t, a1, b1⟩ := kk (T.setVm vm') hT X'
  exact ⟨t, st.trans a1, b1⟩
end Rows
section Ends
variable {p : Program} {l : Launch} {e : Env} {R : Room} {s : State} {m : MethodId} {args : Array Value} {below : List Frame} {meth : Method} {c : Code} {H : Heap} {locs : List Loc} {cells slots : Nat} {Q : State → Prop}
variable {mc ms : Nat} {free : Addr → Prop} {A0 A1 : Nat → Prop} {H0 : Heap} {a : Array Value} {ls : Array Slot} {st0 rest : List Value}
variable {Qc : Array Value → State → Outcome → State → Prop} {XC : String → State → State → Prop}
/-- what a body that may throw owes at its end -/
def vx_MQ (below : List Frame) (Qc : Array Value → State → Outcome → State → Prop) (XC : String → State → State → Prop) (a : Array Value) (s : State) (mc ms : Nat) (free : Addr → Prop) : State → Prop := fun t =>
  ∃ o, t.status = .running ∧ Ended t below o ∧ vx_Q Qc XC mc ms free a s o t
theorem vx_ret {g : JFrame} {mc ms : Nat} (k : W p l e R s m args below meth c H locs cells slots (MQ below Qc args s mc ms free) g) : W p l e R s m args below meth c H locs cells slots (vx_MQ below Qc XC args s mc ms free) g := by
  intro T hT X
  obtain ⟨t, a1, o, b1, b2, b3, b4⟩ := k T hT X
  exact ⟨t, a1, o, b1, b2, Or.inl ⟨b3, b4⟩⟩
/-- not caught here: it goes on to the caller -/
theorem vx_widen {g : JFrame} {q : Addr} {k n : Nat} (h1 : cells ≤ k) (h2 : slots ≤ n) (kk : vx_W p l e R s m args below meth c H locs k n Q g q) : vx_W p l e R s m args below meth c H locs cells slots Q g q := fun T hT X => kk T hT (stand_widen X h1 h2)
theorem vx_out {pc : Nat} {E : String} {ce : Cell} {q : Addr} {mc ms : Nat} (hout : ∀ x ∈ c.exceptionTable.toList, covers x pc = false) (hlocks : meth.locks = false) (hcell : H[q]? = some ce) (hv : ce.vm = .none) (hcl : s.vm.findClass E = some ce.cls)
    (hx : ∀ t : State, t.heap = H → s.vm.Alike t.vm → XC E s t) (hf : ∀ z ∈ locs, free z.base) (hc : cells ≤ mc) (hs : slots ≤ ms) :
    vx_W p l e R s m args below meth c H locs cells slots (vx_MQ below Qc XC args s mc ms free) (F0 m pc ls rest) q := by
  intro T hT X
  obtain ⟨st1, hrun, hend, hW, hsm⟩ := X.leaveThrown q (g := F0 m pc ls rest) rfl rfl rfl hout hlocks
  have hcell9 : (T.setFrames (.throwing q :: below)).heap[q]? = some ce := by
    show T.heap[q]? = some ce
    rw [hT]; exact hcell
  exact ⟨_, st1, .threw q, hrun, hend, Or.inr ⟨q, rfl, E, ce, locs, hx _ hT hW.alike, hcell9, hv, hcl, hW, hsm.mono hc hs, hf⟩⟩
theorem vx_frame {U : State} {k n : Nat} (h : s.sameButNew ({ U with vm := s.vm } : State) locs k n) : s.heap.size ≤ U.heap.size ∧ ∀ q : Nat, q < s.heap.size → (∀ z ∈ locs, z.base ≠ q) → U.heap[q]? = s.heap[q]? := by
  obtain ⟨-, h2, -, -, -, h6⟩ := h
  refine ⟨h2, fun q hq hz => ?_⟩
  obtain ⟨c9, e1, e2, e3, e4⟩ := h6 q _ (Array.getElem?_eq_getElem hq)
  have hs : c9.slots = (s.heap[q]).slots := Array.ext_getElem? fun i => e4 i fun hm => hz _ hm rfl
  have h9 : c9 = s.heap[q] := by
    rw [hs] at e2
    exact e2
  have e5 : U.heap[q]? = some c9 := e1
  rw [e5, h9, Array.getElem?_eq_getElem hq]
/-- the words of a throw but the four that speak of the heap -/
def vx_no (w : Cond) : Bool := decide (w ≠ .isRef (.static Bundle.tN "UNASSIGNED_STACK" Bundle.steD)) && decide (w ≠ .isRef (.static Bundle.tN "SUPPRESSED_SENTINEL" Bundle.listD)) && decide (w ≠ .laysStatic Bundle.tN "UNASSIGNED_STACK" Bundle.steD) && decide (w ≠ .laysStatic Bundle.tN "SUPPRESSED_SENTINEL" Bundle.listD)
def vx_at0 (own : String) (ic : Nat) (X : String) (names : List String) : List Cond := (Bundle.ownAtoms0 own ic X names).filter vx_no
def vx_atS (own : String) (ic : Nat) (X : String) (names : List String) : List Cond := (Bundle.ownAtoms own ic X names).filter vx_no
/-- a word that the tables alone decide, or a good one -/
def vx_ot (w : Cond) : Bool := w.onTables || goodWord w
theorem vx_ot_at {args a' : Array Value} {s U : State} {w : Cond} (hW : s.WarmedH U.vm) (hvm : s.vm = U.vm) (hg : vx_ot w = true) (h : w.before args s = true) : w.before a' U = true := by
  simp only [vx_ot, Bool.or_eq_true] at hg
  rcases hg with hg | hg
  · exact va_tabs hg hvm h
  · exact word_at hW (good_of_word hg) h
/-- a list's words: the good ones out of the method's own list, the others by premises of their own -/
theorem vx_hat {args : Array Value} {s : State} {L B : List Cond} (h1 : ∀ w ∈ L.filter goodWord, w.before args s = true) (h2 : ∀ w ∈ L.filter (fun w => !goodWord w), w ∈ B) (h3 : ∀ w ∈ B, w.before args s = true) : ∀ w ∈ L, w.before args s = true := by
  intro w hw
  by_cases g : goodWord w = true
  · exact h1 w (List.mem_filter.mpr ⟨hw, g⟩)
  · refine h3 w (h2 w (List.mem_filter.mpr ⟨hw, ?_⟩))
    show (!goodWord w) = true
    cases hgw : goodWord w
    · rfl
    · exact absurd hgw g
theorem vx_c {args : Array Value} {s : State} {w : Cond} {B : List Cond} (h : w.before args s = true) (t : ∀ w ∈ B, w.before args s = true) : ∀ w' ∈ w :: B, w'.before args s = true := fun w' h' => (List.mem_cons.mp h').elim (fun e => by rw [e]; exact h) (t w')
theorem vx_n {args : Array Value} {s : State} : ∀ w ∈ ([] : List Cond), w.before args s = true := fun _ h => nomatch h
theorem vx_own {args : Array Value} {s : State} {L : List Cond} (h1 : ∀ w ∈ L.filter vx_no, w.before args s = true)
    (hU : (Cond.isRef (.static Bundle.tN "UNASSIGNED_STACK" Bundle.steD)).before args s = true) (hN : (Cond.isRef (.static Bundle.tN "SUPPRESSED_SENTINEL" Bundle.listD)).before args s = true)
    (lU : (Cond.laysStatic Bundle.tN "UNASSIGNED_STACK" Bundle.steD).before args s = true) (lN : (Cond.laysStatic Bundle.tN "SUPPRESSED_SENTINEL" Bundle.listD).before args s = true) : ∀ w ∈ L, w.before args s = true := by
  intro w hw
  by_cases e1 : w = .isRef (.static Bundle.tN "UNASSIGNED_STACK" Bundle.steD)
  · rw [e1]; exact hU
  · by_cases e2 : w = .isRef (.static Bundle.tN "SUPPRESSED_SENTINEL" Bundle.listD)
    · rw [e2]; exact hN
    · by_cases e3 : w = .laysStatic Bundle.tN "UNASSIGNED_STACK" Bundle.steD
      · rw [e3]; exact lU
      · by_cases e4 : w = .laysStatic Bundle.tN "SUPPRESSED_SENTINEL" Bundle.listD
        · rw [e4]; exact lN
        · exact h1 w (List.mem_filter.mpr ⟨hw, by unfold vx_no; rw [decide_eq_true e1, decide_eq_true e2, decide_eq_true e3, decide_eq_true e4]; rfl⟩)
/-- where a static field lies, its class's statics cell in H -/
def vx_L (C n d : String) (A : Nat → Prop) (U : State) (H : Heap) : Prop := ∃ (c : ClassId) (k : Class) (i : Nat) (f : Field) (a : Nat) (cell : Cell), U.vm.findClass C = some c ∧ U.fieldFound? C n d = some (c, k, i, f) ∧ f.isStatic = true ∧ k.statics = some a ∧ H[a]? = some cell ∧ cell.vm.isStatics = true ∧ cell.cls = c ∧ f.slot < cell.slots.size ∧ k.staticTypes[f.slot]? = some f.type ∧ ¬ A a
theorem vx_L.moved {C n d : String} {A : Nat → Prop} {u U : State} {H : Heap} (hvm : u.vm.Alike U.vm) (h : vx_L C n d A u H) : vx_L C n d A U H := by
  obtain ⟨c, k, i, f, a, cell, h1, h2, h3, h4, h5, h6, h7, h8, h9, h10⟩ := h
  obtain ⟨k', hi', he⟩ := State.fieldFound?_setVm hvm h2
  exact ⟨c, k', i, f, a, cell, by rw [hvm.findClass]; exact h1, hi', h3, by rw [he]; exact h4, h5, h6, h7, h8, by rw [he]; exact h9, h10⟩
theorem vx_L.kept {C n d : String} {A : Nat → Prop} {U : State} {H H1 : Heap} (h : vx_L C n d A U H) (hq : ∀ a : Nat, a < H.size → ¬ A a → H1[a]? = H[a]?) : vx_L C n d A U H1 := by
  obtain ⟨c, k, i, f, a, cell, h1, h2, h3, h4, h5, h6, h7, h8, h9, h10⟩ := h
  exact ⟨c, k, i, f, a, cell, h1, h2, h3, h4, by rw [hq a (Array.getElem?_eq_some_iff.mp h5).1 h10]; exact h5, h6, h7, h8, h9, h10⟩
theorem vx_L.narrow {C n d : String} {A B : Nat → Prop} {U : State} {H : Heap} (h : vx_L C n d A U H) (hAB : ∀ q, B q → A q) : vx_L C n d B U H := by
  obtain ⟨c, k, i, f, a, cell, h1, h2, h3, h4, h5, h6, h7, h8, h9, h10⟩ := h
  exact ⟨c, k, i, f, a, cell, h1, h2, h3, h4, h5, h6, h7, h8, h9, fun z => h10 (hAB _ z)⟩
theorem vx_L.word {C n d : String} {A : Nat → Prop} {s : State} {args : Array Value} (h : vx_L C n d A s s.heap) : (Cond.laysStatic C n d).before args s = true := by
  obtain ⟨c, k, i, f, a, cell, h1, h2, h3, h4, h5, h6, h7, h8, h9, -⟩ := h
  show (Cond.laysStatic C n d).holds args s none s [] = true
  exact Cond.laysStatic_of h1 h2 h3 h4 h5 h6 h7 h8 h9
/-- .. and what it holds: null or some reference -/
def vx_Zq (C n d : String) (A : Nat → Prop) (U : State) (H : Heap) : Prop := va_Zq C n d A U H ∧ vx_L C n d A U H
theorem vx_Zq.moved {C n d : String} {A : Nat → Prop} {u U : State} {H : Heap} (hvm : u.vm.Alike U.vm) (h : vx_Zq C n d A u H) : vx_Zq C n d A U H := ⟨va_Zq.moved hvm h.1, vx_L.moved hvm h.2⟩
theorem vx_Zq.kept {C n d : String} {A : Nat → Prop} {U : State} {H H1 : Heap} (h : vx_Zq C n d A U H) (hq : ∀ a : Nat, a < H.size → ¬ A a → H1[a]? = H[a]?) : vx_Zq C n d A U H1 := ⟨va_Zq.kept h.1 hq, vx_L.kept h.2 hq⟩
theorem vx_Zq.narrow {C n d : String} {A B : Nat → Prop} {U : State} {H : Heap} (h : vx_Zq C n d A U H) (hAB : ∀ q, B q → A q) : vx_Zq C n d B U H := ⟨va_Zq.narrow h.1 hAB, vx_L.narrow h.2 hAB⟩
theorem vx_Zqof {args : Array Value} {s : State} {C n d : String} {A : Nat → Prop} (hl : (Cond.laysStatic C n d).before args s = true) (hini : (Cond.initialized C).before args s = true) (h : (Cond.isRef (.static C n d)).before args s = true) (hA : ∀ a : Nat, a < s.heap.size → ¬ A a) : vx_Zq C n d A s s.heap := by
  refine ⟨va_Zqof hl hini h hA, ?_⟩
  obtain ⟨c, k, i, f, a, cell, h1, h2, h3, h4, h5, h6, h7, h8, h9⟩ := Cond.laysStatic_spec hl
  exact ⟨c, k, i, f, a, cell, h1, h2, h3, h4, h5, h6, h7, h8, h9, hA a (Array.getElem?_eq_some_iff.mp h5).1⟩
theorem vx_isRef {C n d : String} {v : Value} {A : Nat → Prop} {s : State} {args : Array Value} (h : va_Z C n d v A s s.heap) (hv : v.isRef = true) : (Cond.isRef (.static C n d)).before args s = true := by
  obtain ⟨cf, kf, fi, f, a, cell, h1, h2, h3, h4, h5, h6, h7, -⟩ := h
  have he : (Term.static C n d).eval args s none [] s = some v := by
    simp [Term.eval, State.fieldNamed?, h1, h2, h4, h5, h6, h7]
  simp only [Cond.before, Cond.holds, Cond.value, he]
  cases v <;> simp_all [Value.isRef]
theorem vx_isRefq {C n d : String} {A : Nat → Prop} {s : State} {args : Array Value} (h : va_Zq C n d A s s.heap) : (Cond.isRef (.static C n d)).before args s = true := by
  rcases h with h | ⟨t, h⟩
  · exact vx_isRef h rfl
  · exact vx_isRef h rfl
/-- the same frame, seen from here: as if the method were called anew in this heap -/
theorem vx_rebase {T : State} (X : Stand p l e R s m args below meth c T locs cells slots) {R' : Room} (hf : R'.frames ≤ R.frames) (hl : R'.locals ≤ R.locals) (hc : cells + R'.cells ≤ R.cells) (hs : slots + R'.slots ≤ R.slots) :
    Stand p l e R' ((T.setVm s.vm).setFrames (.invoking m args :: below)) m args below meth c T [] 0 0 := by
  have htop : (T.setVm s.vm).topJava?.isSome := X.here.top
  have hF : ((T.setVm s.vm).setFrames (.invoking m args :: below)).frames = .invoking m args :: below := State.frames_setFrames _ (State.cur_lt_of_top htop)
  obtain ⟨g₀, hg0⟩ := Option.isSome_iff_exists.mp htop
  obtain ⟨r, hr⟩ := State.topJava?_eq_some.mp hg0
  have hl9 : e.platform.stackLimits (T.setVm s.vm).me = e.platform.stackLimits s.me := X.limits
  have hb9 : (T.setVm s.vm).me.stackBytes = s.me.stackBytes := X.bytes
  refine ⟨X.admits, X.cas, X.clock, hF, ?_, X.hears, X.method, X.code, X.here, X.tail, X.warmed, ?_, ?_, ?_⟩
  · have h := X.room
    have hU : ((T.setVm s.vm).setFrames (.invoking m args :: below)).localsInUse = s.localsInUse := by
      rw [State.localsInUse_invoking hF (meth := meth) (c := c) X.method X.code, State.localsInUse_invoking X.frames X.method X.code]
    simp only [State.hasRoom, Bool.and_eq_true, decide_eq_true_eq] at h ⊢
    obtain ⟨⟨⟨⟨h1, h2, h3, h4, h5, h6⟩, h7⟩, h8⟩, h9⟩ := h
    rw [X.frames, List.length_cons] at h2 h3
    have q1 := X.heapSize
    have q2 := X.used
    simp only [hF, hU, List.length_cons, State.stackLimits_setFrames, State.stackBytes_setFrames, hl9, hb9]
    refine ⟨⟨⟨⟨by omega, by omega, by omega, by omega, by omega, h6⟩, ?_⟩, ?_⟩, X.book⟩
    · show T.heap.size + R'.cells ≤ e.platform.maxCells
      omega
    · show T.slotsUsed + R'.slots ≤ e.platform.maxSlots
      omega
  · rw [State.stackLimits_setFrames]; rfl
  · rw [State.stackBytes_setFrames]; rfl
  · refine ⟨?_, Nat.le_refl _, Nat.le_refl _, ?_, ?_, fun a c9 h9 => ⟨c9, h9, rfl, rfl, fun _ _ => rfl⟩⟩
    · obtain ⟨t, ht, -⟩ := State.frames_cons hr
      show T.setVm s.vm = { ((T.setVm s.vm).setFrames (.invoking m args :: below)).setFrames (T.setVm s.vm).frames with heap := T.heap, slotsUsed := T.slotsUsed }
      rw [State.setFrames_setFrames, State.setFrames_self ht]
      rfl
    · show T.slotsUsed = T.slotsUsed + ((T.heap.toList.drop T.heap.size).map (·.slots.size)).sum
      rw [List.drop_eq_nil_of_le (Nat.le_of_eq Array.length_toList)]
      rfl
    · show ((T.heap.toList.drop T.heap.size).map (·.slots.size)).sum ≤ 0
      rw [List.drop_eq_nil_of_le (Nat.le_of_eq Array.length_toList)]
      exact Nat.le_refl _
/-- 'throw new E()': new; dup; invokespecial; athrow -/
theorem vx_throw0 {cc : ByteArray} {pc : Nat} (hexec : p.tables.exec = Jvm.exec) (hb : c.code = cc) (hl : l.stackTraces = false) {own cls : String} {names : List String} {ik ic mc ms : Nat} {A : Nat → Prop}
    (hown : s.vm.findClass own = some m.cls) (hcls : Bundle.fit cls = true) (hnames : ∀ n ∈ names, Bundle.fit n = true)
    (hk : (Cond.classLink own ik cls).before args s = true) (hini : (Cond.initialized cls).before args s = true) (hat : ∀ w ∈ vx_at0 own ic cls names, w.before args s = true)
    (hgood : ∀ w ∈ Cond.classLink own ik cls :: Cond.initialized cls :: vx_at0 own ic cls names, vx_ot w = true)
    (hU : vx_Zq Bundle.tN "UNASSIGNED_STACK" Bundle.steD A s s.heap) (hN : vx_Zq Bundle.tN "SUPPRESSED_SENTINEL" Bundle.listD A s s.heap) (hS : va_S A s.heap H locs) (hsize : ls.size = c.maxLocals)
    (d0 : decode cc pc = .ok (.new ik, 3)) (d3 : decode cc (pc + 3) = .ok (.dup, 1)) (d4 : decode cc (pc + 4) = .ok (.invokespecial ic, 3)) (d7 : decode cc (pc + 7) = .ok (.athrow, 1))
    (hout : ∀ x ∈ c.exceptionTable.toList, covers x (pc + 7) = false)
    (hRframes : names.length + 3 < R.frames) (hRlocals : (rest.map fun v => v.category).sum + (13 * (names.length + 1) + 42) ≤ R.locals) (hRcells : cells + 1 ≤ R.cells) (hRslots : slots + 6 ≤ R.slots) (hlocks : meth.locks = false)
    (hx : ∀ t : State, s.vm.Alike t.vm → H.size ≤ t.heap.size → (∀ q : Nat, q < H.size → t.heap[q]? = H[q]?) → XC cls s t)
    (hf : ∀ z ∈ locs, free z.base) (hc : cells + 1 ≤ mc) (hs : slots + 6 ≤ ms) :
    W p l e R s m args below meth c H locs cells slots (vx_MQ below Qc XC args s mc ms free) (F0 m pc ls rest) := by
  intro T hT X
  have htr : e.platform.stackTraces = false := (show e.platform.stackTraces = l.stackTraces by rw [X.admits.platform]).trans hl
  have Y := vx_rebase X (R' := { frames := R.frames, locals := R.locals, cells := 1, slots := 6 }) (Nat.le_refl _) (Nat.le_refl _) hRcells hRslots
  obtain ⟨s', hA⟩ : ∃ z, z = (T.setVm s.vm).setFrames (.invoking m args :: below) := ⟨_, rfl⟩
  rw [← hA] at Y
  have hvm : s'.vm = s.vm := by rw [hA]; rfl
  have hhp : s'.heap = H := by rw [hA]; exact hT
  have hW0 : s.WarmedH s'.vm := by rw [hvm]; exact State.WarmedH.refl s
  have hat' : ∀ w ∈ vx_at0 own ic cls names, w.before args s' = true := fun w hw => vx_ot_at hW0 hvm.symm (hgood w (List.mem_cons_of_mem _ (List.mem_cons_of_mem _ hw))) (hat w hw)
  have hk' : (Cond.classLink own ik cls).before args s' = true := vx_ot_at hW0 hvm.symm (hgood _ List.mem_cons_self) hk
  have hini' : (Cond.initialized cls).before args s' = true := vx_ot_at hW0 hvm.symm (hgood _ (List.mem_cons_of_mem _ List.mem_cons_self)) hini
  have hU' : vx_Zq Bundle.tN "UNASSIGNED_STACK" Bundle.steD A s' s'.heap := by rw [hhp]; exact vx_Zq.moved hW0.alike (hU.kept hS.2.1)
  have hN' : vx_Zq Bundle.tN "SUPPRESSED_SENTINEL" Bundle.listD A s' s'.heap := by rw [hhp]; exact vx_Zq.moved hW0.alike (hN.kept hS.2.1)
  have h : ∀ w ∈ Bundle.ownAtoms0 own ic cls names, w.before args s' = true := vx_own hat' (vx_isRefq hU'.1) (vx_isRefq hN'.1) hU'.2.word hN'.2.word
  have hown' : s'.vm.findClass own = some m.cls := by rw [hvm]; exact hown
  have hins : (Cond.instantiable cls 6).before args s' = true := h _ (by simp [Bundle.ownAtoms0])
  obtain ⟨vm₁, cX, kX, hfX, hkX, -, -, X₁, st1⟩ := Y.newCold hexec (own := own) (C := cls) (index := ik) (n := 6) hown' hk' hins hini'
    (g := F0 m pc ls rest) rfl (by rw [hb]; exact d0) (Nat.le_refl _) (Nat.le_refl _)
  generalize hT1 : (T.setVm vm₁).pushCell { cls := cX, slots := kX.instanceTypes.map defaultValue, vm := .none } = T1 at X₁ st1
  have hcat : (Value.ref T.heap.size).category = 1 := rfl
  have hcellA : T1.heap[T.heap.size]? = some (freshCell cX kX) := by rw [← hT1]; exact State.heap_pushCell_size _ _
  have d3' : decode c.code (pc + 3) = .ok (.dup, 1) := by rw [hb]; exact d3
  obtain ⟨U, hsteps, hrun, hend, hW, hsame, ce, hce, hO⟩ := X₁.ctorThrow0 hexec htr (own := own) (cls := cls) (names := names) (ic := ic) hown' hcls hnames h (fun x hx => nomatch hx) hfX hkX hcellA (by rw [hhp, hT]; exact Nat.le_refl _)
    (g := { method := m, pc := pc + 4, locals := ls, stack := .ref T.heap.size :: .ref T.heap.size :: rest, locked := none }) rfl hsize rfl rfl (rest := rest) rfl
    (by rw [hb]; exact d4) (by rw [hb]; exact d7) hout hRframes (by simp only [List.map_cons, List.sum_cons, hcat]; omega) hlocks
  obtain ⟨f1, f2⟩ := vx_frame hsame
  rw [hhp] at f1 f2
  have hWs : s.WarmedH U.vm := State.WarmedH.trans hW0 hW
  have hcl : s.vm.findClass cls = some ce.cls := by
    have h9 := hO.cls
    rw [hvm] at h9
    exact h9
  have hall : s.sameButNew ({ U with vm := s.vm } : State) locs mc ms := by
    subst hA
    obtain ⟨e1, e2⟩ := hsame
    rw [State.setFrames_setFrames] at e1
    have h2 : (T.setVm s.vm).sameButNew ({ U with vm := s.vm } : State) [] (0 + 1) (0 + 6) := ⟨e1, e2⟩
    have h3 := X.same.trans h2
    rw [List.append_nil] at h3
    exact h3.mono hc hs
  refine ⟨U, ?_, .threw T.heap.size, hrun, hend, Or.inr ⟨T.heap.size, rfl, cls, ce, locs, hx U hWs.alike f1 (fun q hq => f2 q hq (fun z hz => nomatch hz)), hce, hO.vm, hcl, hWs, hall, hf⟩⟩
  refine st1 _ ?_
  show Steps p.tables e below (T1.setTop { method := m, pc := pc + 3, locals := ls, stack := .ref T.heap.size :: rest, locked := none }) _
  jvm_step X₁.here [X₁.here.top, hexec, d3', Value.category]
  exact hsteps
/-- 'throw new E("text")': new; dup; ldc; invokespecial; athrow -/
theorem vx_throwS {cc : ByteArray} {pc : Nat} (hexec : p.tables.exec = Jvm.exec) (hb : c.code = cc) (hl : l.stackTraces = false) {own cls text : String} {names : List String} {ik is ic mc ms sa : Nat} {A : Nat → Prop}
    (hown : s.vm.findClass own = some m.cls) (hcls : Bundle.fit cls = true) (hnames : ∀ n ∈ names, Bundle.fit n = true)
    (hk : (Cond.classLink own ik cls).before args s = true) (hini : (Cond.initialized cls).before args s = true) (hstr : vk_R own is text sa s) (hat : ∀ w ∈ vx_atS own ic cls names, w.before args s = true)
    (hgood : ∀ w ∈ Cond.classLink own ik cls :: Cond.initialized cls :: vx_atS own ic cls names, vx_ot w = true)
    (hU : vx_Zq Bundle.tN "UNASSIGNED_STACK" Bundle.steD A s s.heap) (hN : vx_Zq Bundle.tN "SUPPRESSED_SENTINEL" Bundle.listD A s s.heap) (hS : va_S A s.heap H locs) (hsize : ls.size = c.maxLocals)
    (d0 : decode cc pc = .ok (.new ik, 3)) (d3 : decode cc (pc + 3) = .ok (.dup, 1)) (d4 : decode cc (pc + 4) = .ok (.ldc is, 2)) (d6 : decode cc (pc + 6) = .ok (.invokespecial ic, 3)) (d9 : decode cc (pc + 9) = .ok (.athrow, 1))
    (hout : ∀ x ∈ c.exceptionTable.toList, covers x (pc + 9) = false)
    (hRframes : names.length + 3 < R.frames) (hRlocals : (rest.map fun v => v.category).sum + (13 * (names.length + 1) + 43) ≤ R.locals) (hRcells : cells + 1 ≤ R.cells) (hRslots : slots + 6 ≤ R.slots) (hlocks : meth.locks = false)
    (hx : ∀ t : State, s.vm.Alike t.vm → H.size ≤ t.heap.size → (∀ q : Nat, q < H.size → t.heap[q]? = H[q]?) → XC cls s t)
    (hf : ∀ z ∈ locs, free z.base) (hc : cells + 1 ≤ mc) (hs : slots + 6 ≤ ms) :
    W p l e R s m args below meth c H locs cells slots (vx_MQ below Qc XC args s mc ms free) (F0 m pc ls rest) := by
  intro T hT X
  have htr : e.platform.stackTraces = false := (show e.platform.stackTraces = l.stackTraces by rw [X.admits.platform]).trans hl
  have Y := vx_rebase X (R' := { frames := R.frames, locals := R.locals, cells := 1, slots := 6 }) (Nat.le_refl _) (Nat.le_refl _) hRcells hRslots
  obtain ⟨s', hA⟩ : ∃ z, z = (T.setVm s.vm).setFrames (.invoking m args :: below) := ⟨_, rfl⟩
  rw [← hA] at Y
  have hvm : s'.vm = s.vm := by rw [hA]; rfl
  have hhp : s'.heap = H := by rw [hA]; exact hT
  have hW0 : s.WarmedH s'.vm := by rw [hvm]; exact State.WarmedH.refl s
  have hat' : ∀ w ∈ vx_atS own ic cls names, w.before args s' = true := fun w hw => vx_ot_at hW0 hvm.symm (hgood w (List.mem_cons_of_mem _ (List.mem_cons_of_mem _ hw))) (hat w hw)
  have hk' : (Cond.classLink own ik cls).before args s' = true := vx_ot_at hW0 hvm.symm (hgood _ List.mem_cons_self) hk
  have hini' : (Cond.initialized cls).before args s' = true := vx_ot_at hW0 hvm.symm (hgood _ (List.mem_cons_of_mem _ List.mem_cons_self)) hini
  have hU' : vx_Zq Bundle.tN "UNASSIGNED_STACK" Bundle.steD A s' s'.heap := by rw [hhp]; exact vx_Zq.moved hW0.alike (hU.kept hS.2.1)
  have hN' : vx_Zq Bundle.tN "SUPPRESSED_SENTINEL" Bundle.listD A s' s'.heap := by rw [hhp]; exact vx_Zq.moved hW0.alike (hN.kept hS.2.1)
  have h : ∀ w ∈ Bundle.ownAtoms own ic cls names, w.before args s' = true := vx_own hat' (vx_isRefq hU'.1) (vx_isRefq hN'.1) hU'.2.word hN'.2.word
  have hown' : s'.vm.findClass own = some m.cls := by rw [hvm]; exact hown
  have hins : (Cond.instantiable cls 6).before args s' = true := h _ (by simp [Bundle.ownAtoms])
  obtain ⟨vm₁, cX, kX, hfX, hkX, -, -, X₁, st1⟩ := Y.newCold hexec (own := own) (C := cls) (index := ik) (n := 6) hown' hk' hins hini'
    (g := F0 m pc ls rest) rfl (by rw [hb]; exact d0) (Nat.le_refl _) (Nat.le_refl _)
  generalize hT1 : (T.setVm vm₁).pushCell { cls := cX, slots := kX.instanceTypes.map defaultValue, vm := .none } = T1 at X₁ st1
  have hcat : (Value.ref T.heap.size).category = 1 := rfl
  have hcellA : T1.heap[T.heap.size]? = some (freshCell cX kX) := by rw [← hT1]; exact State.heap_pushCell_size _ _
  have d3' : decode c.code (pc + 3) = .ok (.dup, 1) := by rw [hb]; exact d3
  have d4' : decode c.code (pc + 4) = .ok (.ldc is, 2) := by rw [hb]; exact d4
  have hstr' : vk_R own is text sa s' := vk_R.warm hW0 hstr
  obtain ⟨U, hsteps, hrun, hend, hW, hsame, ce, hce, hO⟩ := X₁.ctorThrowS hexec htr (own := own) (cls := cls) (names := names) (ic := ic) hown' hcls hnames h (fun x hx => nomatch hx) hfX hkX hcellA (by rw [hhp, hT]; exact Nat.le_refl _) (msg := .ref sa) rfl
    (g := { method := m, pc := pc + 6, locals := ls, stack := .ref sa :: .ref T.heap.size :: .ref T.heap.size :: rest, locked := none }) rfl hsize rfl rfl (rest := rest) rfl
    (by rw [hb]; exact d6) (by rw [hb]; exact d9) hout hRframes (by simp only [List.map_cons, List.sum_cons, hcat]; omega) hlocks
  obtain ⟨f1, f2⟩ := vx_frame hsame
  rw [hhp] at f1 f2
  have hWs : s.WarmedH U.vm := State.WarmedH.trans hW0 hW
  have hcl : s.vm.findClass cls = some ce.cls := by
    have h9 := hO.cls
    rw [hvm] at h9
    exact h9
  have hall : s.sameButNew ({ U with vm := s.vm } : State) locs mc ms := by
    subst hA
    obtain ⟨e1, e2⟩ := hsame
    rw [State.setFrames_setFrames] at e1
    have h2 : (T.setVm s.vm).sameButNew ({ U with vm := s.vm } : State) [] (0 + 1) (0 + 6) := ⟨e1, e2⟩
    have h3 := X.same.trans h2
    rw [List.append_nil] at h3
    exact h3.mono hc hs
  refine ⟨U, ?_, .threw T.heap.size, hrun, hend, Or.inr ⟨T.heap.size, rfl, cls, ce, locs, hx U hWs.alike f1 (fun q hq => f2 q hq (fun z hz => nomatch hz)), hce, hO.vm, hcl, hWs, hall, hf⟩⟩
  refine st1 _ ?_
  show Steps p.tables e below (T1.setTop { method := m, pc := pc + 3, locals := ls, stack := .ref T.heap.size :: rest, locked := none }) _
  jvm_step X₁.here [X₁.here.top, hexec, d3', Value.category]
  exact X₁.ldcString hexec (own := own) (text := text) (index := is) (a := sa) hown' hstr'.1 hstr'.2
    (g := { method := m, pc := pc + 4, locals := ls, stack := .ref T.heap.size :: .ref T.heap.size :: rest, locked := none }) rfl d4' _ hsteps
/-- 'throw new E("text")', the text by a wide index -/
theorem vx_throwSW {cc : ByteArray} {pc : Nat} (hexec : p.tables.exec = Jvm.exec) (hb : c.code = cc) (hl : l.stackTraces = false) {own cls text : String} {names : List String} {ik is ic mc ms sa : Nat} {A : Nat → Prop}
    (hown : s.vm.findClass own = some m.cls) (hcls : Bundle.fit cls = true) (hnames : ∀ n ∈ names, Bundle.fit n = true)
    (hk : (Cond.classLink own ik cls).before args s = true) (hini : (Cond.initialized cls).before args s = true) (hstr : vk_R own is text sa s) (hat : ∀ w ∈ vx_atS own ic cls names, w.before args s = true)
    (hgood : ∀ w ∈ Cond.classLink own ik cls :: Cond.initialized cls :: vx_atS own ic cls names, vx_ot w = true)
    (hU : vx_Zq Bundle.tN "UNASSIGNED_STACK" Bundle.steD A s s.heap) (hN : vx_Zq Bundle.tN "SUPPRESSED_SENTINEL" Bundle.listD A s s.heap) (hS : va_S A s.heap H locs) (hsize : ls.size = c.maxLocals)
    (d0 : decode cc pc = .ok (.new ik, 3)) (d3 : decode cc (pc + 3) = .ok (.dup, 1)) (d4 : decode cc (pc + 4) = .ok (.ldc_w is, 3)) (d7 : decode cc (pc + 7) = .ok (.invokespecial ic, 3)) (d10 : decode cc (pc + 10) = .ok (.athrow, 1))
    (hout : ∀ x ∈ c.exceptionTable.toList, covers x (pc + 10) = false)
    (hRframes : names.length + 3 < R.frames) (hRlocals : (rest.map fun v => v.category).sum + (13 * (names.length + 1) + 43) ≤ R.locals) (hRcells : cells + 1 ≤ R.cells) (hRslots : slots + 6 ≤ R.slots) (hlocks : meth.locks = false)
    (hx : ∀ t : State, s.vm.Alike t.vm → H.size ≤ t.heap.size → (∀ q : Nat, q < H.size → t.heap[q]? = H[q]?) → XC cls s t)
    (hf : ∀ z ∈ locs, free z.base) (hc : cells + 1 ≤ mc) (hs : slots + 6 ≤ ms) :
    W p l e R s m args below meth c H locs cells slots (vx_MQ below Qc XC args s mc ms free) (F0 m pc ls rest) := by
  intro T hT X
  have htr : e.platform.stackTraces = false := (show e.platform.stackTraces = l.stackTraces by rw [X.admits.platform]).trans hl
  have Y := vx_rebase X (R' := { frames := R.frames, locals := R.locals, cells := 1, slots := 6 }) (Nat.le_refl _) (Nat.le_refl _) hRcells hRslots
  obtain ⟨s', hA⟩ : ∃ z, z = (T.setVm s.vm).setFrames (.invoking m args :: below) := ⟨_, rfl⟩
  rw [← hA] at Y
  have hvm : s'.vm = s.vm := by rw [hA]; rfl
  have hhp : s'.heap = H := by rw [hA]; exact hT
  have hW0 : s.WarmedH s'.vm := by rw [hvm]; exact State.WarmedH.refl s
  have hat' : ∀ w ∈ vx_atS own ic cls names, w.before args s' = true := fun w hw => vx_ot_at hW0 hvm.symm (hgood w (List.mem_cons_of_mem _ (List.mem_cons_of_mem _ hw))) (hat w hw)
  have hk' : (Cond.classLink own ik cls).before args s' = true := vx_ot_at hW0 hvm.symm (hgood _ List.mem_cons_self) hk
  have hini' : (Cond.initialized cls).before args s' = true := vx_ot_at hW0 hvm.symm (hgood _ (List.mem_cons_of_mem _ List.mem_cons_self)) hini
  have hU' : vx_Zq Bundle.tN "UNASSIGNED_STACK" Bundle.steD A s' s'.heap := by rw [hhp]; exact vx_Zq.moved hW0.alike (hU.kept hS.2.1)
  have hN' : vx_Zq Bundle.tN "SUPPRESSED_SENTINEL" Bundle.listD A s' s'.heap := by rw [hhp]; exact vx_Zq.moved hW0.alike (hN.kept hS.2.1)
  have h : ∀ w ∈ Bundle.ownAtoms own ic cls names, w.before args s' = true := vx_own hat' (vx_isRefq hU'.1) (vx_isRefq hN'.1) hU'.2.word hN'.2.word
  have hown' : s'.vm.findClass own = some m.cls := by rw [hvm]; exact hown
  have hins : (Cond.instantiable cls 6).before args s' = true := h _ (by simp [Bundle.ownAtoms])
  obtain ⟨vm₁, cX, kX, hfX, hkX, -, -, X₁, st1⟩ := Y.newCold hexec (own := own) (C := cls) (index := ik) (n := 6) hown' hk' hins hini'
    (g := F0 m pc ls rest) rfl (by rw [hb]; exact d0) (Nat.le_refl _) (Nat.le_refl _)
  generalize hT1 : (T.setVm vm₁).pushCell { cls := cX, slots := kX.instanceTypes.map defaultValue, vm := .none } = T1 at X₁ st1
  have hcat : (Value.ref T.heap.size).category = 1 := rfl
  have hcellA : T1.heap[T.heap.size]? = some (freshCell cX kX) := by rw [← hT1]; exact State.heap_pushCell_size _ _
  have d3' : decode c.code (pc + 3) = .ok (.dup, 1) := by rw [hb]; exact d3
  have d4' : decode c.code (pc + 4) = .ok (.ldc_w is, 3) := by rw [hb]; exact d4
  have hstr' : vk_R own is text sa s' := vk_R.warm hW0 hstr
  obtain ⟨U, hsteps, hrun, hend, hW, hsame, ce, hce, hO⟩ := X₁.ctorThrowS hexec htr (own := own) (cls := cls) (names := names) (ic := ic) hown' hcls hnames h (fun x hx => nomatch hx) hfX hkX hcellA (by rw [hhp, hT]; exact Nat.le_refl _) (msg := .ref sa) rfl
    (g := { method := m, pc := pc + 7, locals := ls, stack := .ref sa :: .ref T.heap.size :: .ref T.heap.size :: rest, locked := none }) rfl hsize rfl rfl (rest := rest) rfl
    (by rw [hb]; exact d7) (by rw [hb]; exact d10) hout hRframes (by simp only [List.map_cons, List.sum_cons, hcat]; omega) hlocks
  obtain ⟨f1, f2⟩ := vx_frame hsame
  rw [hhp] at f1 f2
  have hWs : s.WarmedH U.vm := State.WarmedH.trans hW0 hW
  have hcl : s.vm.findClass cls = some ce.cls := by
    have h9 := hO.cls
    rw [hvm] at h9
    exact h9
  have hall : s.sameButNew ({ U with vm := s.vm } : State) locs mc ms := by
    subst hA
    obtain ⟨e1, e2⟩ := hsame
    rw [State.setFrames_setFrames] at e1
    have h2 : (T.setVm s.vm).sameButNew ({ U with vm := s.vm } : State) [] (0 + 1) (0 + 6) := ⟨e1, e2⟩
    have h3 := X.same.trans h2
    rw [List.append_nil] at h3
    exact h3.mono hc hs
  refine ⟨U, ?_, .threw T.heap.size, hrun, hend, Or.inr ⟨T.heap.size, rfl, cls, ce, locs, hx U hWs.alike f1 (fun q hq => f2 q hq (fun z hz => nomatch hz)), hce, hO.vm, hcl, hWs, hall, hf⟩⟩
  refine st1 _ ?_
  show Steps p.tables e below (T1.setTop { method := m, pc := pc + 3, locals := ls, stack := .ref T.heap.size :: rest, locked := none }) _
  jvm_step X₁.here [X₁.here.top, hexec, d3', Value.category]
  exact X₁.ldcStringW hexec (own := own) (text := text) (index := is) (a := sa) hown' hstr'.1 hstr'.2
    (g := { method := m, pc := pc + 4, locals := ls, stack := .ref T.heap.size :: .ref T.heap.size :: rest, locked := none }) rfl d4' _ hsteps
end Ends
section Bodies
variable {l : Launch}
theorem vx_ofW {y : MethodName} {ws ws' : List Cond} {rm : Room} {Pc : Array Value → State → Prop} {Qc : Array Value → State → Outcome → State → Prop} {XC : String → State → State → Prop} {mc ms : Nat} {free : Addr → Prop} {cc : ByteArray} {maxL : Nat} {ret : Option FieldType}
    (hy : plainName y.cls = true) (hw : ws = Cond.code y cc maxL ret :: ws')
    (body : ∀ p e s m args below meth c s₁, BodyLoose p l y (headSpec ws rm) cc maxL ret e s m args below meth c s₁ → c.maxLocals = maxL → (∀ x ∈ c.exceptionTable.toList, False) → Pc args s →
      W p l e (headSpec ws rm).room s m args below meth c s.heap [] 0 0 (vx_MQ below Qc XC args s mc ms free) (entryFrame m args maxL)) : vx_Met l y ws rm Pc Qc XC mc ms free := by
  refine MetFree.of_bodyS (code := cc) (maxLocals := maxL) (ret := ret) hy ?_ ?_
  · intro args s m h hn
    obtain ⟨meth, c, h1, h2, h3, h4, h5, h6, -, -⟩ := Cond.code_spec hn (atoms_spec (ws := ws) h _ (by rw [hw]; exact List.mem_cons_self))
    exact ⟨meth, c, h1, h2, h3, h4, h5, h6⟩
  · intro p e s m args below meth c s₁ B hml hP _
    have hh0 : s₁.heap = s.heap := by rw [B.state]; rfl
    have ht : ∀ x ∈ c.exceptionTable.toList, False := by
      obtain ⟨meth9, c9, h1, h2, -, -, -, -, h7, -⟩ := Cond.code_spec B.named (atoms_spec (ws := ws) B.pre _ (by rw [hw]; exact List.mem_cons_self))
      cases Option.some.inj (h1.symm.trans B.method)
      cases Option.some.inj (h2.symm.trans (Stand.of_body B).code)
      intro x hx
      rw [Array.isEmpty_iff.mp h7] at hx
      cases hx
    obtain ⟨t, a1, o, b1, b2, b3⟩ := body p e s m args below meth c s₁ B hml ht hP s₁ hh0 (Stand.of_body B)
    exact ⟨t, o, a1, b1, b2, b3⟩
/-- the table of a body with handlers -/
theorem vx_table {p : Program} {x y : MethodName} {S : Spec} {cc bytes : ByteArray} {maxL maxL' : Nat} {ret ret' : Option FieldType} {e : Env} {s s₁ : State} {m : MethodId} {args : Array Value} {below : List Frame} {meth : Method} {c : Code} {hh : List (Nat × Nat × Nat × Nat)}
    (B : BodyLoose p l y S cc maxL ret e s m args below meth c s₁) (h : (Cond.codeWith y bytes maxL' ret' hh).before args s = true) : c.exceptionTable.toList = tableOf hh := by
  obtain ⟨m9, meth9, c9, hn9, h1, h2, -, -, h6, -⟩ := Cond.codeWith_spec h
  cases Option.some.inj (hn9.symm.trans B.named)
  cases Option.some.inj (h1.symm.trans B.method)
  cases Option.some.inj (h2.symm.trans (Stand.of_body B).code)
  rw [← h6, table_eq]
end Bodies
end VXA
/-! ===== END ===== -/
/-! ===== BEGIN a static call of a method with an exception table ===== -/
section VXS
variable {p : Program} {l : Launch} {e : Env} {R : Room} {s : State} {m : MethodId} {args : Array Value} {below : List Frame} {meth : Method} {c : Code} {T : State} {H : Heap} {locs : List Loc} {cells slots : Nat}
abbrev vx_CSW (R : Room) (s : State) (args : Array Value) (own : String) (index : Nat) (y : MethodName) (bytes : ByteArray) (maxL : Nat) (ret : Option FieldType) (hh : List (Nat × Nat × Nat × Nat)) (ws : List Cond) (rm : Room) (mc ms n : Nat) : Prop :=
  (rm.cells = mc ∧ rm.slots = ms ∧ rm.frames + 1 ≤ R.frames ∧ 8 + (maxL + 11) + rm.locals ≤ R.locals ∧ (∀ w ∈ ws, ∀ (a' : Array Value) (U : State), s.WarmedH U.vm → w.before a' U = true) ∧ Cond.codeWith y bytes maxL ret hh ∈ ws) ∧
  (Cond.codeWith y bytes maxL ret hh).before args s = true ∧ (Cond.initialized y.cls).before args s = true ∧ (y.cls ≠ "java/lang/invoke/MethodHandle" ∧ y.cls ≠ "java/lang/invoke/VarHandle") ∧
  (∀ sig, parseMethodDescriptor y.desc = some sig → n = sig.parameters.length) ∧ (Cond.methodLink own index y).before args s = true ∧ (Cond.static y).before args s = true
theorem vx_cwSW {own : String} {index maxL mc ms : Nat} {y : MethodName} {bytes : ByteArray} {ret : Option FieldType} {hh : List (Nat × Nat × Nat × Nat)} {Ts ws ws' : List Cond} {rm : Room} (n : Nat) (ht : ∀ w ∈ Ts, w.before args s = true) (hT : GoodIn Ts (va_wsS own index y ws)) (hw : ws = Cond.codeWith y bytes maxL ret hh :: ws') (hrc : rm.cells = mc) (hrs : rm.slots = ms)
    (hd : y.cls ≠ "java/lang/invoke/MethodHandle" ∧ y.cls ≠ "java/lang/invoke/VarHandle" ∧ (parseMethodDescriptor y.desc).map (fun d => d.parameters.length) = some n) (hR : rm.frames + 1 ≤ R.frames ∧ 8 + (maxL + 11) + rm.locals ≤ R.locals) :
    vx_CSW R s args own index y bytes maxL ret hh ws rm mc ms n := by
  have ok : ∀ w ∈ va_wsS own index y ws, w.before args s = true := fun w h => ht w (hT w h).1
  have hG : GoodIn Ts ws := fun w h => hT w (by unfold va_wsS; exact List.mem_append_right _ h)
  have hc : Cond.codeWith y bytes maxL ret hh ∈ ws := by rw [hw]; exact List.mem_cons_self
  refine ⟨⟨hrc, hrs, hR.1, hR.2, pay_in ht hG, hc⟩, ht _ (hG _ hc).1, ok _ (by simp [va_wsS]), ⟨hd.1, hd.2.1⟩, fun sig h => ?_, ok _ (by simp [va_wsS]), ok _ (by simp [va_wsS])⟩
  have h2 := hd.2.2
  rw [h] at h2
  exact (Option.some.inj h2).symm
theorem vx_callSW (X : Stand p l e R s m args below meth c T locs cells slots) (hexec : p.tables.exec = Jvm.exec) {own : String} {index : Nat} {y : MethodName} {bytes : ByteArray} {maxL : Nat} {ret : Option FieldType} {hh : List (Nat × Nat × Nat × Nat)}
    (hown : s.vm.findClass own = some m.cls) (hlink : (Cond.methodLink own index y).before args s = true) (hstat : (Cond.static y).before args s = true) (hinit : (Cond.initialized y.cls).before args s = true)
    (hcode : (Cond.codeWith y bytes maxL ret hh).before args s = true) (hy : y.cls ≠ "java/lang/invoke/MethodHandle" ∧ y.cls ≠ "java/lang/invoke/VarHandle")
    {W9 : Nat} {Pre : Pt → Array Value → Prop} {Post : Pt → Array Value → Option Value → Pt → Prop} (hK : Back l R p e below s args y 3 W9 Pre Post)
    {g : JFrame} (hg : g.method = m) (hsize : g.locals.size = c.maxLocals) {argsL rest : List Value} (hlen : ∀ sig, parseMethodDescriptor y.desc = some sig → argsL.length = sig.parameters.length)
    (hstack : g.stack = argsL.reverse ++ rest) (hW : 2 * g.monitorRoom + (rest.map fun v => v.category).sum ≤ W9) (hdg : decode c.code g.pc = .ok (.invokestatic index, 3))
    (hpre : ∀ vm₁, s.WarmedH vm₁ → Pre ⟨T.setVm vm₁, locs, cells, slots⟩ argsL.toArray) :
    ∃ (v : Option Value) (vm₁ : Vm) (B : Pt), s.WarmedH vm₁ ∧ Stand p l e R s m args below meth c B.U B.locs B.cells B.slots ∧ Post ⟨T.setVm vm₁, locs, cells, slots⟩ argsL.toArray v B ∧
      ∀ target, Steps p.tables e below (B.U.setTop { g with pc := g.pc + 3, stack := v.toList ++ rest }) target → Steps p.tables e below (T.setTop g) target := by
  obtain ⟨mk, methM, cM, hnamed, hmethM, -, -, -, -, -, -, hsigM⟩ := Cond.codeWith_spec hcode
  have hstatic : methM.isStatic = true := Cond.static_spec hnamed hmethM hstat
  obtain ⟨kP, hkP, -⟩ := className_of_methodNamed hnamed
  have hinitP : kP.init = .initialized := Cond.initialized_spec (findClass_of_methodNamed hnamed) hkP hinit
  obtain ⟨vm₁, X₁, hstep₁⟩ := X.invokestatic hexec hown hlink hnamed hmethM hstatic hkP hinitP hy (g := g) hg (argsL := argsL) (rest := rest) (hlen _ hsigM) hstack hdg
  obtain ⟨v, B, X', hpost, hsteps⟩ := hK m meth c ⟨T.setVm vm₁, locs, cells, slots⟩ { g with stack := rest } (.invokestatic index) mk argsL.toArray X₁ hg hsize hdg hW (X₁.named hnamed) (hpre vm₁ X₁.warmed)
  exact ⟨v, vm₁, B, X₁.warmed, X', hpost, fun target h => hstep₁ _ fun acts => by rw [doInvoke_state]; exact hsteps.trans h⟩
theorem vx_runSW {y : MethodName} {bytes cc : ByteArray} {maxL nL mc ms n index : Nat} {ret : Option FieldType} {hh : List (Nat × Nat × Nat × Nat)} {ws : List Cond} {rm : Room} {Pc : Array Value → State → Prop} {Qc : Array Value → State → Outcome → State → Prop} {free : Addr → Prop} {Ts : List Cond} {own : String} {As rest : List Value} {g : JFrame}
    (S : CallFix p m c cc nL s args Ts own) (hM : Met l y ws rm Pc Qc mc ms free) (cw : vx_CSW R s args own index y bytes maxL ret hh ws rm mc ms n) (hp : PreS s H Pc As)
    (hg : g.method = m) (hn : As.length = n) (hsize : g.locals.size = nL) (hstack : g.stack = As.reverse ++ rest) (hW : 2 * g.monitorRoom + (rest.map fun v => v.category).sum ≤ 8) (hdg : decode cc g.pc = .ok (.invokestatic index, 3)) (hf : cells + mc ≤ R.cells ∧ slots + ms ≤ R.slots) :
    va_Run p l e R s m args below meth c H locs cells slots mc ms g rest (Qc As.toArray) (free) := by
  obtain ⟨⟨hrc, hrs, hfr, hlo, hws, hcw⟩, hcode, hini, hy, hlen, hl, hstt⟩ := cw
  have hK : Back l R p e below s args y 3 8 (PreOf R mc ms Pc) (PostOf Qc mc ms free) := va_backW (hh := hh) (bytes := bytes) (maxL := maxL) (ret := ret) hM hp.1 hrc hrs hfr hlo hws hcw (fun a' U hW => word_at hW (Or.inl (by first | rfl | simp [Cond.onTables, Cond.keeps, Cond.steady])) hini)
  obtain ⟨hx, hb, hml, ho, -⟩ := S
  intro T hT X
  obtain ⟨v, vm₁, ⟨U', l2, c2, s2⟩, hW₁, X', ⟨g', mk, t, L, e1, e2, hq, h1, hL, h2, h3⟩, st⟩ := vx_callSW X hx (hh := hh) (bytes := bytes) (maxL := maxL) (ret := ret) ho hl hstt hini hcode hy hK hg (hsize.trans hml.symm) (argsL := As) (rest := rest) (fun sig h => hn.trans (hlen sig h)) hstack hW (by rw [hb]; exact hdg)
    (fun vm₁ hW₁ => ⟨hf.1, hf.2, hp.2 (T.setVm vm₁) hT hW₁⟩)
  dsimp only [Pt.U, Pt.locs, Pt.cells, Pt.slots] at X' e1 e2 h1 h2 h3 st
  subst h1; subst h2; subst h3
  exact ⟨v, (T.setVm vm₁).calling g' mk As.toArray, t, U', L, hT, X', hL, e1, e2, hq, st⟩
/-- not caught here, past rows that name other classes: it goes on to the caller -/
theorem vx_outP {p : Program} {l : Launch} {e : Env} {R : Room} {s : State} {m : MethodId} {args : Array Value} {below : List Frame} {meth : Method} {c : Code} {H : Heap} {locs : List Loc} {cells slots : Nat} {free : Addr → Prop} {ls : Array Slot} {rest : List Value} {Qc : Array Value → State → Outcome → State → Prop} {XC : String → State → State → Prop}
    {pc : Nat} {own E : String} {ce : Cell} {q : Addr} {mc ms : Nat} (hown : s.vm.findClass own = some m.cls) (hlocks : meth.locks = false)
    (hpass : ∀ z ∈ c.exceptionTable.toList, covers z pc = false ∨ (z.catchType ≠ 0 ∧ ∃ nm : String, (Cond.classLink own z.catchType nm).before args s = true ∧ va_Nc E nm s)) (hcell : H[q]? = some ce) (hv : ce.vm = .none) (hcl : s.vm.findClass E = some ce.cls)
    (hx : ∀ t : State, t.heap = H → s.vm.Alike t.vm → XC E s t) (hf : ∀ z ∈ locs, free z.base) (hc : cells ≤ mc) (hs : slots ≤ ms) :
    vx_W p l e R s m args below meth c H locs cells slots (vx_MQ below Qc XC args s mc ms free) (F0 m pc ls rest) q := by
  intro T hT X
  have hpl : e.platform.magicAccessors = ({} : Platform).magicAccessors := by rw [X.admits.platform]
  obtain ⟨vm', hW', X', st⟩ := X.outThrough hlocks q (g := F0 m pc ls rest) rfl rfl rfl (cell := ce) (by rw [hT]; exact hcell) (by rw [hv]; rfl)
    (by obtain ⟨k9, h9, -⟩ := Vm.findClass_spec hcl; exact ⟨k9, h9⟩) (fun z hz => by
      rcases hpass z hz with h | ⟨hz0, nm, hl1, hn1⟩
      · exact Or.inl h
      · obtain ⟨c6, hc6, hcl6⟩ := Cond.classLink_spec hown hl1 e.platform hpl
        obtain ⟨a8, b8, h1, h2, h3⟩ := hn1
        cases Option.some.inj (h1.symm.trans hcl)
        cases Option.some.inj (h2.symm.trans hc6)
        exact Or.inr ⟨hz0, _, hcl6, h3⟩)
  obtain ⟨g₀, hfr⟩ := X'.frames_eq
  have hcell9 : ((T.setVm vm').setFrames (.throwing q :: below)).heap[q]? = some ce := by
    show T.heap[q]? = some ce
    rw [hT]; exact hcell
  have hend : Ended ((T.setVm vm').setFrames (.throwing q :: below)) below (.threw q) := State.frames_setFrames _ (State.cur_lt_of_frames hfr)
  refine ⟨(T.setVm vm').setFrames (.throwing q :: below), ?_, .threw q, X'.here.running, hend, Or.inr ⟨q, rfl, E, ce, locs, hx _ hT (X'.ends _).1.alike, hcell9, hv, hcl, (X'.ends _).1, (X'.ends _).2.mono hc hs, hf⟩⟩
  rw [X.pushThrowing_eq]
  exact st
/-- a thing of a world lies in the heap -/
theorem vx_lt {D : va_G} {cl : List vw_C} {ws : va_W} {H1 : Heap} (h : va_P D cl ws H1) {k : Nat} {q : Nat × va_E} (hk : ws[k]? = some q) : q.1 < H1.size := (h k q hk).lt
end VXS
/-! ===== END ===== -/
/-! ===== BEGIN methods with a table of their own: called by a name, returning or throwing ===== -/
section VXH
/-! vx_backW, vx_callVX, vx_callSX, vx_callVW, vx_runVW, vx_runVX, vx_runSX, vx_ofWH follow the same proofs as their sisters above (Free/Laws.lean, Shelf42/LK1.lean); vx_outP calls Shelf42/NT130.lean (outThrough). -/
section
variable {l : Launch} {R : Room} {p : Program} {e : Env} {below : List Frame} {s : State} {sargs : Array Value} {y : MethodName} {len W9 : Nat}
theorem vx_backW {ws : List Cond} {rm : Room} {Pc : Array Value → State → Prop} {Qc : Array Value → State → Outcome → State → Prop} {XC : String → State → State → Prop} {mc ms : Nat} {free : Addr → Prop} {bytes : ByteArray} {maxL : Nat} {ret : Option FieldType} {hh : List (Nat × Nat × Nat × Nat)}
    (hM : vx_Met l y ws rm Pc Qc XC mc ms free) (hblind : FrameBlind Pc) (hrc : rm.cells = mc) (hrs : rm.slots = ms)
    (hframes : rm.frames + 1 ≤ R.frames) (hlocals : W9 + (maxL + 11) + rm.locals ≤ R.locals)
    (hws : ∀ w ∈ ws, ∀ a' U, s.WarmedH U.vm → w.before a' U = true) (hcode : Cond.codeWith y bytes maxL ret hh ∈ ws) (hinit : ∀ a' U, s.WarmedH U.vm → (Cond.initialized y.cls).before a' U = true) :
    vx_Back l R p e below s sargs y len W9 (PreOf R mc ms Pc) (PostOf Qc mc ms free) (vx_Post XC mc ms free) := by
  intro m meth c A g ig mk a X hg hsize hdg hW hn hp
  have h1 : (headSpec ws rm).pre.before a A.U = true := atoms_intro fun w hw => hws w hw _ _ X.warmed
  have h2 : (Cond.codeWith y bytes maxL ret hh).before a A.U = true := hws _ hcode _ _ X.warmed
  have h3 : (Cond.initialized y.cls).before a A.U = true := hinit _ _ X.warmed
  have h4 : A.cells + (headSpec ws rm).room.cells ≤ R.cells := by rw [show (headSpec ws rm).room.cells = mc from hrc]; exact hp.1
  have h5 : A.slots + (headSpec ws rm).room.slots ≤ R.slots := by rw [show (headSpec ws rm).room.slots = ms from hrs]; exact hp.2.1
  have hPc : Pc a (A.U.calling g mk a) := hblind _ _ _ _ hp.2.2
  obtain ⟨U, Ls, c0, s0⟩ := A
  dsimp only [Pt.U, Pt.locs, Pt.cells, Pt.slots] at h1 h2 h3 h4 h5 X hn hPc ⊢
  obtain ⟨m9, methY, cY, hn9, hmY, hcY, -, hlY, -⟩ := Cond.codeWith_spec h2
  cases Option.some.inj (hn9.symm.trans hn)
  obtain ⟨kY, hkY, -⟩ := className_of_methodNamed hn
  have hinitY : kY.init = .initialized := Cond.initialized_spec (findClass_of_methodNamed hn) hkY h3
  have h : At U g.method c below := by rw [hg]; exact X.here
  have hlocals9 : W9 + (maxL + 11) + (headSpec ws rm).room.locals ≤ R.locals := hlocals
  have happ : (headSpec ws rm).appliesLoose y e.platform (U.calling g mk a) = true :=
    Spec.appliesLoose_calling (g := g) h hdg hn hkY hinitY
      (X.room_calling (g := g) (R' := (headSpec ws rm).room) hsize hmY hcY hframes (by rw [hlY]; omega) h4 h5) h1
  obtain ⟨mid, hmid⟩ := h.above
  have hfr : (U.setTop g).frames = (.java g :: mid) ++ below := by rw [State.frames_setTop' g h.top, hmid]; rfl
  obtain ⟨o, s₂, hsteps, -, hend, hq⟩ := Steps.callFree hM p X.admits X.cas X.clock (acts := []) hfr happ hPc trivial
  have hq' : vx_Q Qc XC mc ms free a (U.calling g mk a) o s₂ := hq
  rw [State.frames_setTop' g h.top] at hend
  obtain ⟨g₀, hg0⟩ := Option.isSome_iff_exists.mp h.top
  obtain ⟨r, hr⟩ := State.topJava?_eq_some.mp hg0
  have hr' : (({ U with heap := s₂.heap, slotsUsed := s₂.slotsUsed } : State).setVm s₂.vm).frames = .java g₀ :: r := hr
  rcases hq' with ⟨hqc, L, hfe, hL⟩ | ⟨q, rfl, E, ce, L, hx, hce, hcv, hcl, hW₂, hsm, hL⟩
  · obtain ⟨⟨v, rfl⟩, hW₂, e2, q2, q3, q4, q5, q6⟩ := id hfe
    have e3 : s₂ = ({ (U.calling g mk a).setFrames s₂.frames with heap := s₂.heap, slotsUsed := s₂.slotsUsed } : State).setVm s₂.vm := by
      have : s₂ = ({ s₂ with vm := (U.calling g mk a).vm } : State).setVm s₂.vm := rfl
      rw [e2] at this
      exact this
    obtain ⟨c₂, i₂, len₂, hc₂, hd₂, hf₂⟩ := hend
    have hW' : U.WarmedH s₂.vm := hW₂
    have hcc : c₂ = c := by
      have h1 : s₂.code? g.method = U.code? g.method := by
        rw [State.code?_eq, State.code?_eq, hW'.alike.method?]
      exact Option.some.inj (hc₂.symm.trans (h1.trans h.code))
    subst hcc
    have hlen : len₂ = len := by rw [hdg] at hd₂; cases hd₂; rfl
    subst hlen
    have hs₂ : s₂ = (({ U with heap := s₂.heap, slotsUsed := s₂.slotsUsed } : State).setVm s₂.vm).setTop { g with pc := g.pc + len₂, stack := v.toList ++ g.stack } := by
      refine e3.trans ?_
      rw [hf₂, State.calling_eq h.top, State.setFrames_setFrames, State.setTop_of_frames _ hr', hr]
      rfl
    have hsame : U.sameButNew ({ U with heap := s₂.heap, slotsUsed := s₂.slotsUsed } : State) L mc ms := by
      refine ⟨?_, q2, q3, q4, q5, q6⟩
      obtain ⟨t, ht, -⟩ := State.frames_cons hr
      show ({ U with heap := s₂.heap, slotsUsed := s₂.slotsUsed } : State) = { U.setFrames U.frames with heap := s₂.heap, slotsUsed := s₂.slotsUsed }
      rw [State.setFrames_self ht]
    subst hg
    refine Or.inl ⟨v, ⟨(({ U with heap := s₂.heap, slotsUsed := s₂.slotsUsed } : State).setVm s₂.vm), Ls ++ L, c0 + mc, s0 + ms⟩,
      ⟨X.admits, X.cas, X.clock, X.frames, X.room, X.hears, X.method, X.code, (X.here.setHeapUsed s₂.heap s₂.slotsUsed).setVm hW'.alike, X.tail, State.WarmedH.trans X.warmed hW', X.limits, X.bytes, X.same.trans (hsame.setVm s.vm)⟩,
      ⟨g, mk, s₂, L, rfl, rfl, hqc, rfl, hL, rfl, rfl⟩, ?_⟩
    show Steps p.tables e below _ ((({ U with heap := s₂.heap, slotsUsed := s₂.slotsUsed } : State).setVm s₂.vm).setTop { g with pc := g.pc + len₂, stack := v.toList ++ g.stack })
    rw [← hs₂]
    exact hsteps
  · obtain ⟨e2, q2, q3, q4, q5, q6⟩ := id hsm
    have e3 : s₂ = ({ (U.calling g mk a).setFrames s₂.frames with heap := s₂.heap, slotsUsed := s₂.slotsUsed } : State).setVm s₂.vm := by
      have : s₂ = ({ s₂ with vm := (U.calling g mk a).vm } : State).setVm s₂.vm := rfl
      rw [e2] at this
      exact this
    have hf₂ : s₂.frames = .throwing q :: .java g :: U.frames.tail := hend
    have hW' : U.WarmedH s₂.vm := hW₂
    have hs₂ : s₂ = ((({ U with heap := s₂.heap, slotsUsed := s₂.slotsUsed } : State).setVm s₂.vm).setTop g).pushFrame (.throwing q) := by
      refine e3.trans ?_
      rw [hf₂, State.calling_eq h.top, State.setFrames_setFrames, State.pushFrame, State.frames_setTop _ hr', State.setTop_of_frames _ hr', State.setFrames_setFrames, hr]
      rfl
    have hsame : U.sameButNew ({ U with heap := s₂.heap, slotsUsed := s₂.slotsUsed } : State) L mc ms := by
      refine ⟨?_, q2, q3, q4, q5, q6⟩
      obtain ⟨t, ht, -⟩ := State.frames_cons hr
      show ({ U with heap := s₂.heap, slotsUsed := s₂.slotsUsed } : State) = { U.setFrames U.frames with heap := s₂.heap, slotsUsed := s₂.slotsUsed }
      rw [State.setFrames_self ht]
    subst hg
    refine Or.inr ⟨q, ⟨(({ U with heap := s₂.heap, slotsUsed := s₂.slotsUsed } : State).setVm s₂.vm), Ls ++ L, c0 + mc, s0 + ms⟩,
      ⟨X.admits, X.cas, X.clock, X.frames, X.room, X.hears, X.method, X.code, (X.here.setHeapUsed s₂.heap s₂.slotsUsed).setVm hW'.alike, X.tail, State.WarmedH.trans X.warmed hW', X.limits, X.bytes, X.same.trans (hsame.setVm s.vm)⟩,
      ⟨g, mk, s₂, L, E, ce, rfl, rfl, hx, hce, hcv, hcl, rfl, hL, rfl, rfl⟩, ?_⟩
    show Steps p.tables e below _ (((({ U with heap := s₂.heap, slotsUsed := s₂.slotsUsed } : State).setVm s₂.vm).setTop g).pushFrame (.throwing q))
    rw [← hs₂]
    exact hsteps
end
variable {p : Program} {l : Launch} {e : Env} {R : Room} {s : State} {m : MethodId} {args : Array Value} {below : List Frame} {meth : Method} {c : Code} {T : State} {H : Heap} {locs : List Loc} {cells slots : Nat}
theorem vx_callVX (X : Stand p l e R s m args below meth c T locs cells slots) (hexec : p.tables.exec = Jvm.exec) {own C : String} {index : Nat} {y : MethodName} {bytes : ByteArray} {maxL : Nat} {ret : Option FieldType} {hh : List (Nat × Nat × Nat × Nat)}
    (hown : s.vm.findClass own = some m.cls) (hlink : (Cond.methodLink own index y).before args s = true) (hinst : (Cond.instanceMethod y).before args s = true) (hsel : (Cond.selects C y y).before args s = true)
    (hcode : (Cond.codeWith y bytes maxL ret hh).before args s = true) (hy : y.cls ≠ "java/lang/invoke/MethodHandle" ∧ y.cls ≠ "java/lang/invoke/VarHandle")
    {W9 : Nat} {Pre : Pt → Array Value → Prop} {Post : Pt → Array Value → Option Value → Pt → Prop} {PostX : Pt → Array Value → Addr → Pt → Prop} (hK : vx_Back l R p e below s args y 3 W9 Pre Post PostX)
    {b : Addr} {cellB : Cell} (hcell : T.heap[b]? = some cellB) (hobj : cellB.vm.isStatics = false) (hcls : s.vm.findClass C = some cellB.cls)
    {g : JFrame} (hg : g.method = m) (hsize : g.locals.size = c.maxLocals) {argsL rest : List Value} (hlen : ∀ sig, parseMethodDescriptor y.desc = some sig → argsL.length = sig.parameters.length)
    (hstack : g.stack = argsL.reverse ++ .ref b :: rest) (hW : 2 * g.monitorRoom + (rest.map fun v => v.category).sum ≤ W9) (hdg : decode c.code g.pc = .ok (.invokevirtual index, 3))
    (hpre : ∀ vm₁, s.WarmedH vm₁ → Pre ⟨T.setVm vm₁, locs, cells, slots⟩ (Value.ref b :: argsL).toArray) :
    (∃ (v : Option Value) (vm₁ : Vm) (B : Pt), s.WarmedH vm₁ ∧ Stand p l e R s m args below meth c B.U B.locs B.cells B.slots ∧ Post ⟨T.setVm vm₁, locs, cells, slots⟩ (Value.ref b :: argsL).toArray v B ∧
      ∀ target, Steps p.tables e below (B.U.setTop { g with pc := g.pc + 3, stack := v.toList ++ rest }) target → Steps p.tables e below (T.setTop g) target) ∨
    (∃ (q : Addr) (vm₁ : Vm) (B : Pt), s.WarmedH vm₁ ∧ Stand p l e R s m args below meth c B.U B.locs B.cells B.slots ∧ PostX ⟨T.setVm vm₁, locs, cells, slots⟩ (Value.ref b :: argsL).toArray q B ∧
      Steps p.tables e below (T.setTop g) ((B.U.setTop { g with stack := rest }).pushFrame (.throwing q))) := by
  obtain ⟨mk, methM, hnamed, hmethM, hstM, habM⟩ := Cond.instanceMethod_spec hinst
  obtain ⟨m8, methM', cM, hn8, hmethM', -, -, -, -, -, -, hsigM⟩ := Cond.codeWith_spec hcode
  cases Option.some.inj (hn8.symm.trans hnamed)
  cases hmethM.symm.trans hmethM'
  obtain ⟨c2, r2, m2, q1, q2, q3, q4, kP, hkP, hkPi⟩ := Cond.selects_spec hsel
  cases hcls.symm.trans q1
  cases (State.methodFound?_of_named hnamed hy).symm.trans q2
  cases hnamed.symm.trans q3
  have hselP : selectMethod e.platform s.vm cellB.cls mk = .method mk := by rw [Launch.admits_selectMethod X.admits]; exact q4
  obtain ⟨vm₁, X₁, hstep₁⟩ := X.invokevirtual hexec hown hlink hnamed hmethM hstM hkP hkPi hy (a := b) (cell := cellB) hcell
    (fun z h => by rw [h] at hobj; cases hobj) hselP hmethM habM hkP hkPi (g := g) hg (argsL := argsL) (rest := rest) (hlen _ hsigM) hstack hdg
  rcases hK m meth c ⟨T.setVm vm₁, locs, cells, slots⟩ { g with stack := rest } (.invokevirtual index) mk (Value.ref b :: argsL).toArray X₁ hg hsize hdg hW (X₁.named hnamed) (hpre vm₁ X₁.warmed) with ⟨v, B, X', hpost, hsteps⟩ | ⟨q, B, X', hpost, hsteps⟩
  · exact Or.inl ⟨v, vm₁, B, X₁.warmed, X', hpost, fun target h => hstep₁ _ fun acts => by rw [doInvoke_state]; exact hsteps.trans h⟩
  · exact Or.inr ⟨q, vm₁, B, X₁.warmed, X', hpost, hstep₁ _ fun acts => by rw [doInvoke_state]; exact hsteps⟩
theorem vx_callSX (X : Stand p l e R s m args below meth c T locs cells slots) (hexec : p.tables.exec = Jvm.exec) {own : String} {index : Nat} {y : MethodName} {bytes : ByteArray} {maxL : Nat} {ret : Option FieldType} {hh : List (Nat × Nat × Nat × Nat)}
    (hown : s.vm.findClass own = some m.cls) (hlink : (Cond.methodLink own index y).before args s = true) (hstat : (Cond.static y).before args s = true) (hinit : (Cond.initialized y.cls).before args s = true)
    (hcode : (Cond.codeWith y bytes maxL ret hh).before args s = true) (hy : y.cls ≠ "java/lang/invoke/MethodHandle" ∧ y.cls ≠ "java/lang/invoke/VarHandle")
    {W9 : Nat} {Pre : Pt → Array Value → Prop} {Post : Pt → Array Value → Option Value → Pt → Prop} {PostX : Pt → Array Value → Addr → Pt → Prop} (hK : vx_Back l R p e below s args y 3 W9 Pre Post PostX)
    {g : JFrame} (hg : g.method = m) (hsize : g.locals.size = c.maxLocals) {argsL rest : List Value} (hlen : ∀ sig, parseMethodDescriptor y.desc = some sig → argsL.length = sig.parameters.length)
    (hstack : g.stack = argsL.reverse ++ rest) (hW : 2 * g.monitorRoom + (rest.map fun v => v.category).sum ≤ W9) (hdg : decode c.code g.pc = .ok (.invokestatic index, 3))
    (hpre : ∀ vm₁, s.WarmedH vm₁ → Pre ⟨T.setVm vm₁, locs, cells, slots⟩ argsL.toArray) :
    (∃ (v : Option Value) (vm₁ : Vm) (B : Pt), s.WarmedH vm₁ ∧ Stand p l e R s m args below meth c B.U B.locs B.cells B.slots ∧ Post ⟨T.setVm vm₁, locs, cells, slots⟩ argsL.toArray v B ∧
      ∀ target, Steps p.tables e below (B.U.setTop { g with pc := g.pc + 3, stack := v.toList ++ rest }) target → Steps p.tables e below (T.setTop g) target) ∨
    (∃ (q : Addr) (vm₁ : Vm) (B : Pt), s.WarmedH vm₁ ∧ Stand p l e R s m args below meth c B.U B.locs B.cells B.slots ∧ PostX ⟨T.setVm vm₁, locs, cells, slots⟩ argsL.toArray q B ∧
      Steps p.tables e below (T.setTop g) ((B.U.setTop { g with stack := rest }).pushFrame (.throwing q))) := by
  obtain ⟨mk, methM, cM, hnamed, hmethM, -, -, -, -, -, -, hsigM⟩ := Cond.codeWith_spec hcode
  have hstatic : methM.isStatic = true := Cond.static_spec hnamed hmethM hstat
  obtain ⟨kP, hkP, -⟩ := className_of_methodNamed hnamed
  have hinitP : kP.init = .initialized := Cond.initialized_spec (findClass_of_methodNamed hnamed) hkP hinit
  obtain ⟨vm₁, X₁, hstep₁⟩ := X.invokestatic hexec hown hlink hnamed hmethM hstatic hkP hinitP hy (g := g) hg (argsL := argsL) (rest := rest) (hlen _ hsigM) hstack hdg
  rcases hK m meth c ⟨T.setVm vm₁, locs, cells, slots⟩ { g with stack := rest } (.invokestatic index) mk argsL.toArray X₁ hg hsize hdg hW (X₁.named hnamed) (hpre vm₁ X₁.warmed) with ⟨v, B, X', hpost, hsteps⟩ | ⟨q, B, X', hpost, hsteps⟩
  · exact Or.inl ⟨v, vm₁, B, X₁.warmed, X', hpost, fun target h => hstep₁ _ fun acts => by rw [doInvoke_state]; exact hsteps.trans h⟩
  · exact Or.inr ⟨q, vm₁, B, X₁.warmed, X', hpost, hstep₁ _ fun acts => by rw [doInvoke_state]; exact hsteps⟩
theorem vx_callVW (X : Stand p l e R s m args below meth c T locs cells slots) (hexec : p.tables.exec = Jvm.exec) {own C : String} {index : Nat} {y : MethodName} {bytes : ByteArray} {maxL : Nat} {ret : Option FieldType} {hh : List (Nat × Nat × Nat × Nat)}
    (hown : s.vm.findClass own = some m.cls) (hlink : (Cond.methodLink own index y).before args s = true) (hinst : (Cond.instanceMethod y).before args s = true) (hsel : (Cond.selects C y y).before args s = true)
    (hcode : (Cond.codeWith y bytes maxL ret hh).before args s = true) (hy : y.cls ≠ "java/lang/invoke/MethodHandle" ∧ y.cls ≠ "java/lang/invoke/VarHandle")
    {W9 : Nat} {Pre : Pt → Array Value → Prop} {Post : Pt → Array Value → Option Value → Pt → Prop} (hK : Back l R p e below s args y 3 W9 Pre Post)
    {b : Addr} {cellB : Cell} (hcell : T.heap[b]? = some cellB) (hobj : cellB.vm.isStatics = false) (hcls : s.vm.findClass C = some cellB.cls)
    {g : JFrame} (hg : g.method = m) (hsize : g.locals.size = c.maxLocals) {argsL rest : List Value} (hlen : ∀ sig, parseMethodDescriptor y.desc = some sig → argsL.length = sig.parameters.length)
    (hstack : g.stack = argsL.reverse ++ .ref b :: rest) (hW : 2 * g.monitorRoom + (rest.map fun v => v.category).sum ≤ W9) (hdg : decode c.code g.pc = .ok (.invokevirtual index, 3))
    (hpre : ∀ vm₁, s.WarmedH vm₁ → Pre ⟨T.setVm vm₁, locs, cells, slots⟩ (Value.ref b :: argsL).toArray) :
    ∃ (v : Option Value) (vm₁ : Vm) (B : Pt), s.WarmedH vm₁ ∧ Stand p l e R s m args below meth c B.U B.locs B.cells B.slots ∧ Post ⟨T.setVm vm₁, locs, cells, slots⟩ (Value.ref b :: argsL).toArray v B ∧
      ∀ target, Steps p.tables e below (B.U.setTop { g with pc := g.pc + 3, stack := v.toList ++ rest }) target → Steps p.tables e below (T.setTop g) target := by
  obtain ⟨mk, methM, hnamed, hmethM, hstM, habM⟩ := Cond.instanceMethod_spec hinst
  obtain ⟨m8, methM', cM, hn8, hmethM', -, -, -, -, -, -, hsigM⟩ := Cond.codeWith_spec hcode
  cases Option.some.inj (hn8.symm.trans hnamed)
  cases hmethM.symm.trans hmethM'
  obtain ⟨c2, r2, m2, q1, q2, q3, q4, kP, hkP, hkPi⟩ := Cond.selects_spec hsel
  cases hcls.symm.trans q1
  cases (State.methodFound?_of_named hnamed hy).symm.trans q2
  cases hnamed.symm.trans q3
  have hselP : selectMethod e.platform s.vm cellB.cls mk = .method mk := by rw [Launch.admits_selectMethod X.admits]; exact q4
  obtain ⟨vm₁, X₁, hstep₁⟩ := X.invokevirtual hexec hown hlink hnamed hmethM hstM hkP hkPi hy (a := b) (cell := cellB) hcell
    (fun z h => by rw [h] at hobj; cases hobj) hselP hmethM habM hkP hkPi (g := g) hg (argsL := argsL) (rest := rest) (hlen _ hsigM) hstack hdg
  obtain ⟨v, B, X', hpost, hsteps⟩ := hK m meth c ⟨T.setVm vm₁, locs, cells, slots⟩ { g with stack := rest } (.invokevirtual index) mk (Value.ref b :: argsL).toArray X₁ hg hsize hdg hW (X₁.named hnamed) (hpre vm₁ X₁.warmed)
  exact ⟨v, vm₁, B, X₁.warmed, X', hpost, fun target h => hstep₁ _ fun acts => by rw [doInvoke_state]; exact hsteps.trans h⟩
abbrev vx_CVW (R : Room) (s : State) (args : Array Value) (own C : String) (index : Nat) (y : MethodName) (bytes : ByteArray) (maxL : Nat) (ret : Option FieldType) (hh : List (Nat × Nat × Nat × Nat)) (ws : List Cond) (rm : Room) (mc ms n : Nat) : Prop :=
  (rm.cells = mc ∧ rm.slots = ms ∧ rm.frames + 1 ≤ R.frames ∧ 8 + (maxL + 11) + rm.locals ≤ R.locals ∧ (∀ w ∈ ws, ∀ (a' : Array Value) (U : State), s.WarmedH U.vm → w.before a' U = true) ∧ Cond.codeWith y bytes maxL ret hh ∈ ws) ∧
  (Cond.codeWith y bytes maxL ret hh).before args s = true ∧ (Cond.initialized y.cls).before args s = true ∧ (y.cls ≠ "java/lang/invoke/MethodHandle" ∧ y.cls ≠ "java/lang/invoke/VarHandle") ∧
  (∀ sig, parseMethodDescriptor y.desc = some sig → n = sig.parameters.length) ∧ (Cond.methodLink own index y).before args s = true ∧ (Cond.instanceMethod y).before args s = true ∧ (Cond.selects C y y).before args s = true
theorem vx_cwVW {own C : String} {index maxL mc ms : Nat} {y : MethodName} {bytes : ByteArray} {ret : Option FieldType} {hh : List (Nat × Nat × Nat × Nat)} {Ts ws ws' : List Cond} {rm : Room} (n : Nat) (ht : ∀ w ∈ Ts, w.before args s = true) (hT : GoodIn Ts (wsV own index C y ws)) (hw : ws = Cond.codeWith y bytes maxL ret hh :: ws') (hrc : rm.cells = mc) (hrs : rm.slots = ms)
    (hd : y.cls = C ∧ y.cls ≠ "java/lang/invoke/MethodHandle" ∧ y.cls ≠ "java/lang/invoke/VarHandle" ∧ (parseMethodDescriptor y.desc).map (fun d => d.parameters.length) = some n) (hR : rm.frames + 1 ≤ R.frames ∧ 8 + (maxL + 11) + rm.locals ≤ R.locals) :
    vx_CVW R s args own C index y bytes maxL ret hh ws rm mc ms n := by
  obtain ⟨hC, hd⟩ := hd
  subst hC
  have ok : ∀ w ∈ wsV own index y.cls y ws, w.before args s = true := fun w h => ht w (hT w h).1
  have hG : GoodIn Ts ws := fun w h => hT w (by unfold wsV; exact List.mem_append_right _ h)
  have hc : Cond.codeWith y bytes maxL ret hh ∈ ws := by rw [hw]; exact List.mem_cons_self
  refine ⟨⟨hrc, hrs, hR.1, hR.2, pay_in ht hG, hc⟩, ht _ (hG _ hc).1, ok _ (by simp [wsV]), ⟨hd.1, hd.2.1⟩, fun sig h => ?_, ok _ (by simp [wsV]), ok _ (by simp [wsV]), ok _ (by simp [wsV])⟩
  have h2 := hd.2.2
  rw [h] at h2
  exact (Option.some.inj h2).symm
theorem vx_runVW {y : MethodName} {bytes cc : ByteArray} {maxL nL mc ms n index : Nat} {ret : Option FieldType} {hh : List (Nat × Nat × Nat × Nat)} {ws : List Cond} {rm : Room} {Pc : Array Value → State → Prop} {Qc : Array Value → State → Outcome → State → Prop} {free : Addr → Prop} {Ts : List Cond} {own C : String} {b : Addr} {As rest : List Value} {g : JFrame}
    (S : CallFix p m c cc nL s args Ts own) (hM : Met l y ws rm Pc Qc mc ms free) (cw : vx_CVW R s args own C index y bytes maxL ret hh ws rm mc ms n) (hp : PreV s H C b Pc As)
    (hg : g.method = m) (hn : As.length = n) (hsize : g.locals.size = nL) (hstack : g.stack = As.reverse ++ .ref b :: rest) (hW : 2 * g.monitorRoom + (rest.map fun v => v.category).sum ≤ 8) (hdg : decode cc g.pc = .ok (.invokevirtual index, 3)) (hf : cells + mc ≤ R.cells ∧ slots + ms ≤ R.slots) :
    va_Run p l e R s m args below meth c H locs cells slots mc ms g rest (Qc (Value.ref b :: As).toArray) free := by
  obtain ⟨⟨hrc, hrs, hfr, hlo, hws, hcw⟩, hcode, hini, hy, hlen, hl, hin, hse⟩ := cw
  have hK : Back l R p e below s args y 3 8 (PreOf R mc ms Pc) (PostOf Qc mc ms free) := va_backW (hh := hh) (bytes := bytes) (maxL := maxL) (ret := ret) hM hp.1 hrc hrs hfr hlo hws hcw (fun a' U hW => word_at hW (Or.inl (by first | rfl | simp [Cond.onTables, Cond.keeps, Cond.steady])) hini)
  obtain ⟨hx, hb, hml, ho, -⟩ := S
  obtain ⟨-, ⟨cellB, hcB, hoB, hclB⟩, hPc⟩ := hp
  intro T hT X
  obtain ⟨v, vm₁, ⟨U', l2, c2, s2⟩, hW₁, X', ⟨g', mk, t, L, e1, e2, hq, h1, hL, h2, h3⟩, st⟩ := vx_callVW X hx (C := C) (hh := hh) (bytes := bytes) (maxL := maxL) (ret := ret) ho hl hin hse hcode hy hK (by rw [hT]; exact hcB) hoB hclB hg (hsize.trans hml.symm) (argsL := As) (rest := rest) (fun sig h => hn.trans (hlen sig h)) hstack hW (by rw [hb]; exact hdg)
    (fun vm₁ hW₁ => ⟨hf.1, hf.2, hPc (T.setVm vm₁) hT hW₁⟩)
  dsimp only [Pt.U, Pt.locs, Pt.cells, Pt.slots] at X' e1 e2 h1 h2 h3 st
  subst h1; subst h2; subst h3
  exact ⟨v, (T.setVm vm₁).calling g' mk (Value.ref b :: As).toArray, t, U', L, hT, X', hL, e1, e2, hq, st⟩
section
variable {y : MethodName} {bytes cc : ByteArray} {maxL nL mc ms n index : Nat} {ret : Option FieldType} {ws : List Cond} {rm : Room} {Pc : Array Value → State → Prop} {Qc : Array Value → State → Outcome → State → Prop} {XC : String → State → State → Prop} {free : Addr → Prop} {Ts : List Cond} {own C : String} {b : Addr} {As rest : List Value} {g : JFrame}
theorem vx_runVX {hh : List (Nat × Nat × Nat × Nat)} (S : CallFix p m c cc nL s args Ts own) (hM : vx_Met l y ws rm Pc Qc XC mc ms free) (cw : vx_CVW R s args own C index y bytes maxL ret hh ws rm mc ms n) (hp : PreV s H C b Pc As)
    (hg : g.method = m) (hn : As.length = n) (hsize : g.locals.size = nL) (hstack : g.stack = As.reverse ++ .ref b :: rest) (hW : 2 * g.monitorRoom + (rest.map fun v => v.category).sum ≤ 8) (hdg : decode cc g.pc = .ok (.invokevirtual index, 3)) (hf : cells + mc ≤ R.cells ∧ slots + ms ≤ R.slots) :
    vx_Run p l e R s m args below meth c H locs cells slots mc ms g rest (Qc (Value.ref b :: As).toArray) XC free := by
  obtain ⟨⟨hrc, hrs, hfr, hlo, hws, hcw⟩, hcode, hini, hy, hlen, hl, hin, hse⟩ := cw
  have hK : vx_Back l R p e below s args y 3 8 (PreOf R mc ms Pc) (PostOf Qc mc ms free) (vx_Post XC mc ms free) := vx_backW (hh := hh) (bytes := bytes) (maxL := maxL) (ret := ret) hM hp.1 hrc hrs hfr hlo hws hcw (fun a' U hW => word_at hW (Or.inl (by first | rfl | simp [Cond.onTables, Cond.keeps, Cond.steady])) hini)
  obtain ⟨hx, hb, hml, ho, -⟩ := S
  obtain ⟨-, ⟨cellB, hcB, hoB, hclB⟩, hPc⟩ := hp
  intro T hT X
  rcases vx_callVX X hx (C := C) (hh := hh) (bytes := bytes) (maxL := maxL) (ret := ret) ho hl hin hse hcode hy hK (by rw [hT]; exact hcB) hoB hclB hg (hsize.trans hml.symm) (argsL := As) (rest := rest) (fun sig h => hn.trans (hlen sig h)) hstack hW (by rw [hb]; exact hdg)
    (fun vm₁ hW₁ => ⟨hf.1, hf.2, hPc (T.setVm vm₁) hT hW₁⟩) with ⟨v, vm₁, ⟨U', l2, c2, s2⟩, hW₁, X', ⟨g', mk, t, L, e1, e2, hq, h1, hL, h2, h3⟩, st⟩ | ⟨q, vm₁, ⟨U', l2, c2, s2⟩, hW₁, X', ⟨g', mk, t, L, E, ce, e1, e2, hq, hce, hcv, hcl, h1, hL, h2, h3⟩, st⟩
  · dsimp only [Pt.U, Pt.locs, Pt.cells, Pt.slots] at X' e1 e2 h1 h2 h3 st
    subst h1; subst h2; subst h3
    exact Or.inl ⟨v, (T.setVm vm₁).calling g' mk (Value.ref b :: As).toArray, t, U', L, hT, X', hL, e1, e2, hq, st⟩
  · dsimp only [Pt.U, Pt.locs, Pt.cells, Pt.slots] at X' e1 e2 h1 h2 h3 st hcl
    subst h1; subst h2; subst h3
    exact Or.inr ⟨q, (T.setVm vm₁).calling g' mk (Value.ref b :: As).toArray, t, U', L, E, ce, hT, X', hL, e1, e2, hq, hce, hcv, vx_cls hW₁ hcl, st⟩
theorem vx_runSX {hh : List (Nat × Nat × Nat × Nat)} (S : CallFix p m c cc nL s args Ts own) (hM : vx_Met l y ws rm Pc Qc XC mc ms free) (cw : vx_CSW R s args own index y bytes maxL ret hh ws rm mc ms n) (hp : PreS s H Pc As)
    (hg : g.method = m) (hn : As.length = n) (hsize : g.locals.size = nL) (hstack : g.stack = As.reverse ++ rest) (hW : 2 * g.monitorRoom + (rest.map fun v => v.category).sum ≤ 8) (hdg : decode cc g.pc = .ok (.invokestatic index, 3)) (hf : cells + mc ≤ R.cells ∧ slots + ms ≤ R.slots) :
    vx_Run p l e R s m args below meth c H locs cells slots mc ms g rest (Qc As.toArray) XC free := by
  obtain ⟨⟨hrc, hrs, hfr, hlo, hws, hcw⟩, hcode, hini, hy, hlen, hl, hstt⟩ := cw
  have hK : vx_Back l R p e below s args y 3 8 (PreOf R mc ms Pc) (PostOf Qc mc ms free) (vx_Post XC mc ms free) := vx_backW (hh := hh) (bytes := bytes) (maxL := maxL) (ret := ret) hM hp.1 hrc hrs hfr hlo hws hcw (fun a' U hW => word_at hW (Or.inl (by first | rfl | simp [Cond.onTables, Cond.keeps, Cond.steady])) hini)
  obtain ⟨hx, hb, hml, ho, -⟩ := S
  intro T hT X
  rcases vx_callSX X hx (hh := hh) (bytes := bytes) (maxL := maxL) (ret := ret) ho hl hstt hini hcode hy hK hg (hsize.trans hml.symm) (argsL := As) (rest := rest) (fun sig h => hn.trans (hlen sig h)) hstack hW (by rw [hb]; exact hdg)
    (fun vm₁ hW₁ => ⟨hf.1, hf.2, hp.2 (T.setVm vm₁) hT hW₁⟩) with ⟨v, vm₁, ⟨U', l2, c2, s2⟩, hW₁, X', ⟨g', mk, t, L, e1, e2, hq, h1, hL, h2, h3⟩, st⟩ | ⟨q, vm₁, ⟨U', l2, c2, s2⟩, hW₁, X', ⟨g', mk, t, L, E, ce, e1, e2, hq, hce, hcv, hcl, h1, hL, h2, h3⟩, st⟩
  · dsimp only [Pt.U, Pt.locs, Pt.cells, Pt.slots] at X' e1 e2 h1 h2 h3 st
    subst h1; subst h2; subst h3
    exact Or.inl ⟨v, (T.setVm vm₁).calling g' mk As.toArray, t, U', L, hT, X', hL, e1, e2, hq, st⟩
  · dsimp only [Pt.U, Pt.locs, Pt.cells, Pt.slots] at X' e1 e2 h1 h2 h3 st hcl
    subst h1; subst h2; subst h3
    exact Or.inr ⟨q, (T.setVm vm₁).calling g' mk As.toArray, t, U', L, E, ce, hT, X', hL, e1, e2, hq, hce, hcv, vx_cls hW₁ hcl, st⟩
end
end VXH
theorem vx_ofWH {l : Launch} {y : MethodName} {ws ws' : List Cond} {rm : Room} {Pc : Array Value → State → Prop} {Qc : Array Value → State → Outcome → State → Prop} {XC : String → State → State → Prop} {mc ms : Nat} {free : Addr → Prop} {cc : ByteArray} {maxL : Nat} {ret : Option FieldType} {hh : List (Nat × Nat × Nat × Nat)}
    (hy : plainName y.cls = true) (hw : ws = Cond.codeWith y cc maxL ret hh :: ws')
    (body : ∀ p e s m args below meth c s₁, BodyLoose p l y (headSpec ws rm) cc maxL ret e s m args below meth c s₁ → c.maxLocals = maxL → Pc args s →
      W p l e (headSpec ws rm).room s m args below meth c s.heap [] 0 0 (vx_MQ below Qc XC args s mc ms free) (entryFrame m args maxL)) : vx_Met l y ws rm Pc Qc XC mc ms free := by
  refine MetFree.of_bodyS (code := cc) (maxLocals := maxL) (ret := ret) hy ?_ ?_
  · intro args s m h hn
    obtain ⟨m9, meth, c, hn9, h1, h2, h3, h4, -, h5, h6, -⟩ := Cond.codeWith_spec (atoms_spec (ws := ws) h _ (by rw [hw]; exact List.mem_cons_self))
    cases hn.symm.trans hn9
    exact ⟨meth, c, h1, h2, h3, h4, h5, h6⟩
  · intro p e s m args below meth c s₁ B hml hP _
    have hh0 : s₁.heap = s.heap := by rw [B.state]; rfl
    obtain ⟨t, a1, o, b1, b2, b3⟩ := body p e s m args below meth c s₁ B hml hP s₁ hh0 (Stand.of_body B)
    exact ⟨t, o, a1, b1, b2, b3⟩
/-! ===== END ===== -/

/-! ===== BEGIN printed: names, fields, word lists, decode rows ===== -/
def RX0 : String := "ShareTickets$History"
def TX0 : u_T := fun k => match k with
  | 0 => ("ShareTickets$History", "size", "I", false)
  | 1 => ("ShareTickets$History", "newest", "I", false)
  | _ => ("ShareTickets$History", "past", "[LShareTickets$Place;", true)
def tyX0 : Nat → FieldType := fun k => match k with
  | 0 => .int
  | 1 => .int
  | _ => .array (.object "ShareTickets$Place")
abbrev wsX00 : List Cond := u_ws RX0 TX0 3
theorem nmX0 : ∀ a, a < 3 → ∀ b, b < 3 → a ≠ b → (TX0 a).2.1 ≠ (TX0 b).2.1 := by decide +kernel
theorem tyX0_ok : ∀ k, k < 3 → parseFieldDescriptor (TX0 k).2.2.1 = some (tyX0 k) := by decide +kernel
abbrev cX0_init : ByteArray := prog_2_method_1_code
def yX0_init : MethodName := ⟨RX0, "<init>", "()V"⟩
abbrev cX0_keep : ByteArray := prog_2_method_2_code
def yX0_keep : MethodName := ⟨RX0, "keep", "(LShareTickets$Place;)V"⟩
abbrev cX0_restore : ByteArray := prog_2_method_3_code
def yX0_restore : MethodName := ⟨RX0, "restore", "(LShareTickets$Place;)V"⟩
def RX1 : String := "ShareTickets$Jobs"
def TX1 : u_T := fun k => match k with
  | 0 => ("ShareTickets$Jobs", "size", "I", false)
  | 1 => ("ShareTickets$Jobs", "leaf", "[I", true)
  | 2 => ("ShareTickets$Jobs", "length", "[I", true)
  | 3 => ("ShareTickets$Jobs", "work", "[I", true)
  | 4 => ("ShareTickets$Jobs", "state", "[I", true)
  | 5 => ("ShareTickets$Jobs", "machine", "[I", true)
  | 6 => ("ShareTickets$Jobs", "ended", "[I", true)
  | _ => ("ShareTickets$Jobs", "waited", "[I", true)
def tyX1 : Nat → FieldType := fun k => match k with
  | 0 => .int
  | 1 => .array .int
  | 2 => .array .int
  | 3 => .array .int
  | 4 => .array .int
  | 5 => .array .int
  | 6 => .array .int
  | _ => .array .int
abbrev wsX10 : List Cond := u_ws RX1 TX1 8
theorem nmX1 : ∀ a, a < 8 → ∀ b, b < 8 → a ≠ b → (TX1 a).2.1 ≠ (TX1 b).2.1 := by decide +kernel
theorem tyX1_ok : ∀ k, k < 8 → parseFieldDescriptor (TX1 k).2.2.1 = some (tyX1 k) := by decide +kernel
abbrev cX1_init : ByteArray := prog_3_method_1_code
def yX1_init : MethodName := ⟨RX1, "<init>", "()V"⟩
abbrev cX1_clear : ByteArray := prog_3_method_2_code
def yX1_clear : MethodName := ⟨RX1, "clear", "()V"⟩
abbrev cX1_copyFrom : ByteArray := prog_3_method_3_code
def yX1_copyFrom : MethodName := ⟨RX1, "copyFrom", "(LShareTickets$Jobs;)V"⟩
abbrev cX1_has : ByteArray := prog_3_method_4_code
def yX1_has : MethodName := ⟨RX1, "has", "(I)Z"⟩
abbrev cX1_isFull : ByteArray := prog_3_method_5_code
def yX1_isFull : MethodName := ⟨RX1, "isFull", "()Z"⟩
abbrev cX1_isOpen : ByteArray := prog_3_method_6_code
def yX1_isOpen : MethodName := ⟨RX1, "isOpen", "(I)Z"⟩
abbrev cX1_runsOn : ByteArray := prog_3_method_7_code
def yX1_runsOn : MethodName := ⟨RX1, "runsOn", "(II)Z"⟩
abbrev cX1_anyOf : ByteArray := prog_3_method_8_code
def yX1_anyOf : MethodName := ⟨RX1, "anyOf", "(I)Z"⟩
abbrev cX1_inState : ByteArray := prog_3_method_9_code
def yX1_inState : MethodName := ⟨RX1, "inState", "(I)I"⟩
abbrev cX1_add : ByteArray := prog_3_method_10_code
def yX1_add : MethodName := ⟨RX1, "add", "(II)V"⟩
abbrev cX1_start : ByteArray := prog_3_method_11_code
def yX1_start : MethodName := ⟨RX1, "start", "(II)V"⟩
abbrev cX1_stop : ByteArray := prog_3_method_12_code
def yX1_stop : MethodName := ⟨RX1, "stop", "(II)V"⟩
abbrev cX1_end : ByteArray := prog_3_method_13_code
def yX1_end : MethodName := ⟨RX1, "end", "(III)V"⟩
def RX2 : String := "ShareTickets$Loans"
def TX2 : u_T := fun k => match k with
  | 0 => ("ShareTickets$Loans", "size", "I", false)
  | 1 => ("ShareTickets$Loans", "from", "[I", true)
  | 2 => ("ShareTickets$Loans", "to", "[I", true)
  | 3 => ("ShareTickets$Loans", "tickets", "[I", true)
  | 4 => ("ShareTickets$Loans", "begin", "[I", true)
  | _ => ("ShareTickets$Loans", "ticks", "[I", true)
def tyX2 : Nat → FieldType := fun k => match k with
  | 0 => .int
  | 1 => .array .int
  | 2 => .array .int
  | 3 => .array .int
  | 4 => .array .int
  | _ => .array .int
abbrev wsX20 : List Cond := u_ws RX2 TX2 6
theorem nmX2 : ∀ a, a < 6 → ∀ b, b < 6 → a ≠ b → (TX2 a).2.1 ≠ (TX2 b).2.1 := by decide +kernel
theorem tyX2_ok : ∀ k, k < 6 → parseFieldDescriptor (TX2 k).2.2.1 = some (tyX2 k) := by decide +kernel
abbrev cX2_init : ByteArray := prog_4_method_1_code
def yX2_init : MethodName := ⟨RX2, "<init>", "()V"⟩
abbrev cX2_clear : ByteArray := prog_4_method_2_code
def yX2_clear : MethodName := ⟨RX2, "clear", "()V"⟩
abbrev cX2_copyFrom : ByteArray := prog_4_method_3_code
def yX2_copyFrom : MethodName := ⟨RX2, "copyFrom", "(LShareTickets$Loans;)V"⟩
abbrev cX2_has : ByteArray := prog_4_method_4_code
def yX2_has : MethodName := ⟨RX2, "has", "(I)Z"⟩
abbrev cX2_isFull : ByteArray := prog_4_method_5_code
def yX2_isFull : MethodName := ⟨RX2, "isFull", "()Z"⟩
abbrev cX2_anyOf : ByteArray := prog_4_method_6_code
def yX2_anyOf : MethodName := ⟨RX2, "anyOf", "(I)Z"⟩
abbrev cX2_add : ByteArray := prog_4_method_7_code
def yX2_add : MethodName := ⟨RX2, "add", "(IIIII)V"⟩
abbrev cX2_dueAt : ByteArray := prog_4_method_8_code
def yX2_dueAt : MethodName := ⟨RX2, "dueAt", "(I)I"⟩
abbrev cX2_goneAt : ByteArray := prog_4_method_9_code
def yX2_goneAt : MethodName := ⟨RX2, "goneAt", "(I)I"⟩
abbrev cX2_isLent : ByteArray := prog_4_method_10_code
def yX2_isLent : MethodName := ⟨RX2, "isLent", "(II)Z"⟩
abbrev cX2_dropOver : ByteArray := prog_4_method_11_code
def yX2_dropOver : MethodName := ⟨RX2, "dropOver", "(I)V"⟩
abbrev cX2_balanceOf : ByteArray := prog_4_method_12_code
def yX2_balanceOf : MethodName := ⟨RX2, "balanceOf", "(II)I"⟩
def RX3 : String := "ShareTickets$Machines"
def TX3 : u_T := fun k => match k with
  | 0 => ("ShareTickets$Machines", "size", "I", false)
  | 1 => ("ShareTickets$Machines", "slots", "[I", true)
  | _ => ("ShareTickets$Machines", "up", "[I", true)
def tyX3 : Nat → FieldType := fun k => match k with
  | 0 => .int
  | 1 => .array .int
  | _ => .array .int
abbrev wsX30 : List Cond := u_ws RX3 TX3 3
theorem nmX3 : ∀ a, a < 3 → ∀ b, b < 3 → a ≠ b → (TX3 a).2.1 ≠ (TX3 b).2.1 := by decide +kernel
theorem tyX3_ok : ∀ k, k < 3 → parseFieldDescriptor (TX3 k).2.2.1 = some (tyX3 k) := by decide +kernel
abbrev cX3_init : ByteArray := prog_5_method_1_code
def yX3_init : MethodName := ⟨RX3, "<init>", "()V"⟩
abbrev cX3_clear : ByteArray := prog_5_method_2_code
def yX3_clear : MethodName := ⟨RX3, "clear", "()V"⟩
abbrev cX3_copyFrom : ByteArray := prog_5_method_3_code
def yX3_copyFrom : MethodName := ⟨RX3, "copyFrom", "(LShareTickets$Machines;)V"⟩
abbrev cX3_has : ByteArray := prog_5_method_4_code
def yX3_has : MethodName := ⟨RX3, "has", "(I)Z"⟩
abbrev cX3_isFull : ByteArray := prog_5_method_5_code
def yX3_isFull : MethodName := ⟨RX3, "isFull", "()Z"⟩
abbrev cX3_isUp : ByteArray := prog_5_method_6_code
def yX3_isUp : MethodName := ⟨RX3, "isUp", "(I)Z"⟩
abbrev cX3_add : ByteArray := prog_5_method_7_code
def yX3_add : MethodName := ⟨RX3, "add", "(I)V"⟩
abbrev cX3_turn : ByteArray := prog_5_method_8_code
def yX3_turn : MethodName := ⟨RX3, "turn", "(IZ)V"⟩
def RX4 : String := "ShareTickets$Note"
def TX4 : u_T := fun k => match k with
  | 0 => ("ShareTickets$Note", "length", "I", false)
  | _ => ("ShareTickets$Note", "bytes", "[B", true)
def tyX4 : Nat → FieldType := fun k => match k with
  | 0 => .int
  | _ => .array .byte
abbrev wsX40 : List Cond := u_ws RX4 TX4 2
theorem nmX4 : ∀ a, a < 2 → ∀ b, b < 2 → a ≠ b → (TX4 a).2.1 ≠ (TX4 b).2.1 := by decide +kernel
theorem tyX4_ok : ∀ k, k < 2 → parseFieldDescriptor (TX4 k).2.2.1 = some (tyX4 k) := by decide +kernel
abbrev cX4_init : ByteArray := prog_6_method_1_code
def yX4_init : MethodName := ⟨RX4, "<init>", "()V"⟩
abbrev cX4_clear : ByteArray := prog_6_method_2_code
def yX4_clear : MethodName := ⟨RX4, "clear", "()V"⟩
abbrev cX4_put : ByteArray := prog_6_method_3_code
def yX4_put : MethodName := ⟨RX4, "put", "(I)V"⟩
abbrev cX4_putMachine : ByteArray := prog_6_method_4_code
def yX4_putMachine : MethodName := ⟨RX4, "putMachine", "(LShareTickets$Place;I)V"⟩
abbrev cX4_putNumber : ByteArray := prog_6_method_5_code
def yX4_putNumber : MethodName := ⟨RX4, "putNumber", "(I)V"⟩
def RX5 : String := "ShareTickets$Place"
def TX5 : u_T := fun k => match k with
  | 0 => ("ShareTickets$Place", "tree", "LShareTickets$Tree;", true)
  | 1 => ("ShareTickets$Place", "loans", "LShareTickets$Loans;", true)
  | 2 => ("ShareTickets$Place", "machines", "LShareTickets$Machines;", true)
  | 3 => ("ShareTickets$Place", "jobs", "LShareTickets$Jobs;", true)
  | 4 => ("ShareTickets$Place", "scale", "LShareTickets$Scale;", true)
  | 5 => ("ShareTickets$Place", "settings", "[I", true)
  | 6 => ("ShareTickets$Place", "time", "I", false)
  | 7 => ("ShareTickets$Place", "interruptions", "I", false)
  | _ => ("ShareTickets$Place", "lostWork", "I", false)
def tyX5 : Nat → FieldType := fun k => match k with
  | 0 => .object "ShareTickets$Tree"
  | 1 => .object "ShareTickets$Loans"
  | 2 => .object "ShareTickets$Machines"
  | 3 => .object "ShareTickets$Jobs"
  | 4 => .object "ShareTickets$Scale"
  | 5 => .array .int
  | 6 => .int
  | 7 => .int
  | _ => .int
abbrev wsX50 : List Cond := u_ws RX5 TX5 9
theorem nmX5 : ∀ a, a < 9 → ∀ b, b < 9 → a ≠ b → (TX5 a).2.1 ≠ (TX5 b).2.1 := by decide +kernel
theorem tyX5_ok : ∀ k, k < 9 → parseFieldDescriptor (TX5 k).2.2.1 = some (tyX5 k) := by decide +kernel
abbrev cX5_init : ByteArray := prog_7_method_1_code
def yX5_init : MethodName := ⟨RX5, "<init>", "()V"⟩
abbrev cX5_clear : ByteArray := prog_7_method_2_code
def yX5_clear : MethodName := ⟨RX5, "clear", "()V"⟩
abbrev cX5_copyFrom : ByteArray := prog_7_method_3_code
def yX5_copyFrom : MethodName := ⟨RX5, "copyFrom", "(LShareTickets$Place;)V"⟩
abbrev cX5_settle : ByteArray := prog_7_method_4_code
def yX5_settle : MethodName := ⟨RX5, "settle", "()V"⟩
abbrev cX5_fillSlots : ByteArray := prog_7_method_5_code
def yX5_fillSlots : MethodName := ⟨RX5, "fillSlots", "()V"⟩
abbrev cX5_freeMachine : ByteArray := prog_7_method_6_code
def yX5_freeMachine : MethodName := ⟨RX5, "freeMachine", "()I"⟩
abbrev cX5_freeSlots : ByteArray := prog_7_method_7_code
def yX5_freeSlots : MethodName := ⟨RX5, "freeSlots", "()I"⟩
abbrev cX5_bestWaiting : ByteArray := prog_7_method_8_code
def yX5_bestWaiting : MethodName := ⟨RX5, "bestWaiting", "()I"⟩
abbrev cX5_leastRunning : ByteArray := prog_7_method_9_code
def yX5_leastRunning : MethodName := ⟨RX5, "leastRunning", "(I)I"⟩
abbrev cX5_startJob : ByteArray := prog_7_method_10_code
def yX5_startJob : MethodName := ⟨RX5, "startJob", "(II)V"⟩
abbrev cX5_interruptJob : ByteArray := prog_7_method_11_code
def yX5_interruptJob : MethodName := ⟨RX5, "interruptJob", "(I)V"⟩
abbrev cX5_keptWork : ByteArray := prog_7_method_12_code
def yX5_keptWork : MethodName := ⟨RX5, "keptWork", "(I)I"⟩
abbrev cX5_preemptJobs : ByteArray := prog_7_method_13_code
def yX5_preemptJobs : MethodName := ⟨RX5, "preemptJobs", "()V"⟩
abbrev cX5_outweighs : ByteArray := prog_7_method_14_code
def yX5_outweighs : MethodName := ⟨RX5, "outweighs", "(II)Z"⟩
abbrev cX5_switchMachine : ByteArray := prog_7_method_15_code
def yX5_switchMachine : MethodName := ⟨RX5, "switchMachine", "(IZ)V"⟩
abbrev cX5_passTick : ByteArray := prog_7_method_16_code
def yX5_passTick : MethodName := ⟨RX5, "passTick", "()V"⟩
abbrev cX5_workOn : ByteArray := prog_7_method_17_code
def yX5_workOn : MethodName := ⟨RX5, "workOn", "()V"⟩
abbrev cX5_leafRanked : ByteArray := prog_7_method_18_code
def yX5_leafRanked : MethodName := ⟨RX5, "leafRanked", "(I)I"⟩
abbrev cX5_leavesBefore : ByteArray := prog_7_method_19_code
def yX5_leavesBefore : MethodName := ⟨RX5, "leavesBefore", "(I)I"⟩
def RX6 : String := "ShareTickets$Scale"
def TX6 : u_T := fun k => match k with
  | 0 => ("ShareTickets$Scale", "load", "[I", true)
  | 1 => ("ShareTickets$Scale", "waiting", "[I", true)
  | 2 => ("ShareTickets$Scale", "tickets", "[I", true)
  | 3 => ("ShareTickets$Scale", "busy", "[I", true)
  | 4 => ("ShareTickets$Scale", "nextWorth", "[J", true)
  | _ => ("ShareTickets$Scale", "nowWorth", "[J", true)
def tyX6 : Nat → FieldType := fun k => match k with
  | 0 => .array .int
  | 1 => .array .int
  | 2 => .array .int
  | 3 => .array .int
  | 4 => .array .long
  | _ => .array .long
abbrev wsX60 : List Cond := u_ws RX6 TX6 6
theorem nmX6 : ∀ a, a < 6 → ∀ b, b < 6 → a ≠ b → (TX6 a).2.1 ≠ (TX6 b).2.1 := by decide +kernel
theorem tyX6_ok : ∀ k, k < 6 → parseFieldDescriptor (TX6 k).2.2.1 = some (tyX6 k) := by decide +kernel
abbrev cX6_init : ByteArray := prog_8_method_1_code
def yX6_init : MethodName := ⟨RX6, "<init>", "()V"⟩
abbrev cX6_survey : ByteArray := prog_8_method_2_code
def yX6_survey : MethodName := ⟨RX6, "survey", "(LShareTickets$Place;)V"⟩
abbrev cX6_countJobs : ByteArray := prog_8_method_3_code
def yX6_countJobs : MethodName := ⟨RX6, "countJobs", "(LShareTickets$Place;)V"⟩
abbrev cX6_dealTickets : ByteArray := prog_8_method_4_code
def yX6_dealTickets : MethodName := ⟨RX6, "dealTickets", "(LShareTickets$Place;)V"⟩
abbrev cX6_weigh : ByteArray := prog_8_method_5_code
def yX6_weigh : MethodName := ⟨RX6, "weigh", "(LShareTickets$Tree;I)V"⟩
abbrev cX6_shift : ByteArray := prog_8_method_6_code
def yX6_shift : MethodName := ⟨RX6, "shift", "(LShareTickets$Place;III)V"⟩
abbrev cX6_nextWorthOf : ByteArray := prog_8_method_7_code
def yX6_nextWorthOf : MethodName := ⟨RX6, "nextWorthOf", "(I)J"⟩
abbrev cX6_nowWorthOf : ByteArray := prog_8_method_8_code
def yX6_nowWorthOf : MethodName := ⟨RX6, "nowWorthOf", "(I)J"⟩
def RX7 : String := "ShareTickets$Text"
def TX7 : u_T := fun k => match k with
  | 0 => ("ShareTickets$Text", "filled", "I", false)
  | 1 => ("ShareTickets$Text", "error", "I", false)
  | 2 => ("ShareTickets$Text", "errorAt", "I", false)
  | 3 => ("ShareTickets$Text", "bytes", "[B", true)
  | 4 => ("ShareTickets$Text", "length", "I", false)
  | 5 => ("ShareTickets$Text", "at", "I", false)
  | _ => ("ShareTickets$Text", "numberAt", "I", false)
def tyX7 : Nat → FieldType := fun k => match k with
  | 0 => .int
  | 1 => .int
  | 2 => .int
  | 3 => .array .byte
  | 4 => .int
  | 5 => .int
  | _ => .int
abbrev wsX70 : List Cond := u_ws RX7 TX7 7
theorem nmX7 : ∀ a, a < 7 → ∀ b, b < 7 → a ≠ b → (TX7 a).2.1 ≠ (TX7 b).2.1 := by decide +kernel
theorem tyX7_ok : ∀ k, k < 7 → parseFieldDescriptor (TX7 k).2.2.1 = some (tyX7 k) := by decide +kernel
abbrev cX7_init : ByteArray := prog_9_method_1_code
def yX7_init : MethodName := ⟨RX7, "<init>", "()V"⟩
abbrev cX7_put : ByteArray := prog_9_method_2_code
def yX7_put : MethodName := ⟨RX7, "put", "(I)V"⟩
abbrev cX7_read : ByteArray := prog_9_method_3_code
def yX7_read : MethodName := ⟨RX7, "read", "(ILShareTickets$Place;)V"⟩
abbrev cX7_isOver : ByteArray := prog_9_method_4_code
def yX7_isOver : MethodName := ⟨RX7, "isOver", "()Z"⟩
abbrev cX7_readStatement : ByteArray := prog_9_method_5_code
def yX7_readStatement : MethodName := ⟨RX7, "readStatement", "(LShareTickets$Place;)V"⟩
abbrev cX7_readUser : ByteArray := prog_9_method_6_code
def yX7_readUser : MethodName := ⟨RX7, "readUser", "(LShareTickets$Place;I)V"⟩
abbrev cX7_readMachine : ByteArray := prog_9_method_7_code
def yX7_readMachine : MethodName := ⟨RX7, "readMachine", "(LShareTickets$Place;I)V"⟩
abbrev cX7_readJob : ByteArray := prog_9_method_8_code
def yX7_readJob : MethodName := ⟨RX7, "readJob", "(LShareTickets$Place;I)V"⟩
abbrev cX7_readSetting : ByteArray := prog_9_method_9_code
def yX7_readSetting : MethodName := ⟨RX7, "readSetting", "(LShareTickets$Place;I)V"⟩
abbrev cX7_readNumber : ByteArray := prog_9_method_10_code
def yX7_readNumber : MethodName := ⟨RX7, "readNumber", "(II)I"⟩
abbrev cX7_readSemicolon : ByteArray := prog_9_method_11_code
def yX7_readSemicolon : MethodName := ⟨RX7, "readSemicolon", "()V"⟩
abbrev cX7_skipSpaces : ByteArray := prog_9_method_12_code
def yX7_skipSpaces : MethodName := ⟨RX7, "skipSpaces", "()V"⟩
abbrev cX7_skipWord : ByteArray := prog_9_method_13_code
def yX7_skipWord : MethodName := ⟨RX7, "skipWord", "()V"⟩
abbrev cX7_isWord : ByteArray := prog_9_method_14_code
def yX7_isWord : MethodName := ⟨RX7, "isWord", "(Ljava/lang/String;I)Z"⟩
abbrev cX7_isDigit : ByteArray := prog_9_method_15_code
def yX7_isDigit : MethodName := ⟨RX7, "isDigit", "(I)Z"⟩
abbrev cX7_byteAt : ByteArray := prog_9_method_16_code
def yX7_byteAt : MethodName := ⟨RX7, "byteAt", "(I)I"⟩
abbrev cX7_fail : ByteArray := prog_9_method_17_code
def yX7_fail : MethodName := ⟨RX7, "fail", "(II)V"⟩
def RX8 : String := "ShareTickets$Tree"
def TX8 : u_T := fun k => match k with
  | 0 => ("ShareTickets$Tree", "size", "I", false)
  | 1 => ("ShareTickets$Tree", "parent", "[I", true)
  | 2 => ("ShareTickets$Tree", "shares", "[I", true)
  | 3 => ("ShareTickets$Tree", "use", "[I", true)
  | _ => ("ShareTickets$Tree", "base", "[I", true)
def tyX8 : Nat → FieldType := fun k => match k with
  | 0 => .int
  | 1 => .array .int
  | 2 => .array .int
  | 3 => .array .int
  | _ => .array .int
abbrev wsX80 : List Cond := u_ws RX8 TX8 5
theorem nmX8 : ∀ a, a < 5 → ∀ b, b < 5 → a ≠ b → (TX8 a).2.1 ≠ (TX8 b).2.1 := by decide +kernel
theorem tyX8_ok : ∀ k, k < 5 → parseFieldDescriptor (TX8 k).2.2.1 = some (tyX8 k) := by decide +kernel
abbrev cX8_init : ByteArray := prog_10_method_1_code
def yX8_init : MethodName := ⟨RX8, "<init>", "()V"⟩
abbrev cX8_clear : ByteArray := prog_10_method_2_code
def yX8_clear : MethodName := ⟨RX8, "clear", "()V"⟩
abbrev cX8_copyFrom : ByteArray := prog_10_method_3_code
def yX8_copyFrom : MethodName := ⟨RX8, "copyFrom", "(LShareTickets$Tree;)V"⟩
abbrev cX8_has : ByteArray := prog_10_method_4_code
def yX8_has : MethodName := ⟨RX8, "has", "(I)Z"⟩
abbrev cX8_isFull : ByteArray := prog_10_method_5_code
def yX8_isFull : MethodName := ⟨RX8, "isFull", "()Z"⟩
abbrev cX8_isLeaf : ByteArray := prog_10_method_6_code
def yX8_isLeaf : MethodName := ⟨RX8, "isLeaf", "(I)Z"⟩
abbrev cX8_childrenOf : ByteArray := prog_10_method_7_code
def yX8_childrenOf : MethodName := ⟨RX8, "childrenOf", "(I)I"⟩
abbrev cX8_add : ByteArray := prog_10_method_8_code
def yX8_add : MethodName := ⟨RX8, "add", "(II)V"⟩
abbrev cX8_changeShares : ByteArray := prog_10_method_9_code
def yX8_changeShares : MethodName := ⟨RX8, "changeShares", "(II)V"⟩
abbrev cX8_dealBase : ByteArray := prog_10_method_10_code
def yX8_dealBase : MethodName := ⟨RX8, "dealBase", "()V"⟩
abbrev cX8_sharesUnder : ByteArray := prog_10_method_11_code
def yX8_sharesUnder : MethodName := ⟨RX8, "sharesUnder", "(I)I"⟩
abbrev cX8_sumBelow : ByteArray := prog_10_method_12_code
def yX8_sumBelow : MethodName := ⟨RX8, "sumBelow", "(I[I)I"⟩
abbrev cX8_isUnder : ByteArray := prog_10_method_13_code
def yX8_isUnder : MethodName := ⟨RX8, "isUnder", "(II)Z"⟩
abbrev cX8_addUse : ByteArray := prog_10_method_14_code
def yX8_addUse : MethodName := ⟨RX8, "addUse", "(I)V"⟩
abbrev cX8_halveUses : ByteArray := prog_10_method_15_code
def yX8_halveUses : MethodName := ⟨RX8, "halveUses", "()V"⟩
abbrev cX8_need : ByteArray := prog_10_method_16_code
def yX8_need : MethodName := ⟨RX8, "need", "(II)I"⟩
def RX9 : String := "ShareTickets"
def TX9 : u_T := fun k => match k with
  | 0 => ("ShareTickets", "present", "LShareTickets$Place;", true)
  | 1 => ("ShareTickets", "thought", "LShareTickets$Place;", true)
  | 2 => ("ShareTickets", "history", "LShareTickets$History;", true)
  | 3 => ("ShareTickets", "text", "LShareTickets$Text;", true)
  | _ => ("ShareTickets", "written", "LShareTickets$Note;", true)
def tyX9 : Nat → FieldType := fun k => match k with
  | 0 => .object "ShareTickets$Place"
  | 1 => .object "ShareTickets$Place"
  | 2 => .object "ShareTickets$History"
  | 3 => .object "ShareTickets$Text"
  | _ => .object "ShareTickets$Note"
abbrev wsX90 : List Cond := u_ws RX9 TX9 5
theorem nmX9 : ∀ a, a < 5 → ∀ b, b < 5 → a ≠ b → (TX9 a).2.1 ≠ (TX9 b).2.1 := by decide +kernel
theorem tyX9_ok : ∀ k, k < 5 → parseFieldDescriptor (TX9 k).2.2.1 = some (tyX9 k) := by decide +kernel
abbrev cX9_init : ByteArray := prog_1_method_1_code
def yX9_init : MethodName := ⟨RX9, "<init>", "()V"⟩
abbrev cX9_append : ByteArray := prog_1_method_2_code
def yX9_append : MethodName := ⟨RX9, "append", "(IIIII)I"⟩
abbrev cX9_load : ByteArray := prog_1_method_3_code
def yX9_load : MethodName := ⟨RX9, "load", "(I)I"⟩
abbrev cX9_errorPosition : ByteArray := prog_1_method_4_code
def yX9_errorPosition : MethodName := ⟨RX9, "errorPosition", "()I"⟩
abbrev cX9_count : ByteArray := prog_1_method_5_code
def yX9_count : MethodName := ⟨RX9, "count", "(I)I"⟩
abbrev cX9_user : ByteArray := prog_1_method_6_code
def yX9_user : MethodName := ⟨RX9, "user", "(II)I"⟩
abbrev cX9_addUser : ByteArray := prog_1_method_7_code
def yX9_addUser : MethodName := ⟨RX9, "addUser", "(II)I"⟩
abbrev cX9_setShares : ByteArray := prog_1_method_8_code
def yX9_setShares : MethodName := ⟨RX9, "setShares", "(II)I"⟩
abbrev cX9_lend : ByteArray := prog_1_method_9_code
def yX9_lend : MethodName := ⟨RX9, "lend", "(IIII)I"⟩
abbrev cX9_loan : ByteArray := prog_1_method_10_code
def yX9_loan : MethodName := ⟨RX9, "loan", "(II)I"⟩
abbrev cX9_balance : ByteArray := prog_1_method_11_code
def yX9_balance : MethodName := ⟨RX9, "balance", "(I)I"⟩
abbrev cX9_ranked : ByteArray := prog_1_method_12_code
def yX9_ranked : MethodName := ⟨RX9, "ranked", "(I)I"⟩
abbrev cX9_worth : ByteArray := prog_1_method_13_code
def yX9_worth : MethodName := ⟨RX9, "worth", "(II)J"⟩
abbrev cX9_machine : ByteArray := prog_1_method_14_code
def yX9_machine : MethodName := ⟨RX9, "machine", "(II)I"⟩
abbrev cX9_job : ByteArray := prog_1_method_15_code
def yX9_job : MethodName := ⟨RX9, "job", "(II)I"⟩
abbrev cX9_first : ByteArray := prog_1_method_16_code
def yX9_first : MethodName := ⟨RX9, "first", "()I"⟩
abbrev cX9_submit : ByteArray := prog_1_method_17_code
def yX9_submit : MethodName := ⟨RX9, "submit", "(II)I"⟩
abbrev cX9_cancel : ByteArray := prog_1_method_18_code
def yX9_cancel : MethodName := ⟨RX9, "cancel", "(I)I"⟩
abbrev cX9_setUp : ByteArray := prog_1_method_19_code
def yX9_setUp : MethodName := ⟨RX9, "setUp", "(IZ)I"⟩
abbrev cX9_set : ByteArray := prog_1_method_20_code
def yX9_set : MethodName := ⟨RX9, "set", "(II)I"⟩
abbrev cX9_tick : ByteArray := prog_1_method_21_code
def yX9_tick : MethodName := ⟨RX9, "tick", "(I)I"⟩
abbrev cX9_finishedIn : ByteArray := prog_1_method_22_code
def yX9_finishedIn : MethodName := ⟨RX9, "finishedIn", "(I)I"⟩
abbrev cX9_ahead : ByteArray := prog_1_method_23_code
def yX9_ahead : MethodName := ⟨RX9, "ahead", "(II)I"⟩
abbrev cX9_drift : ByteArray := prog_1_method_24_code
def yX9_drift : MethodName := ⟨RX9, "drift", "()I"⟩
abbrev cX9_part : ByteArray := prog_1_method_25_code
def yX9_part : MethodName := ⟨RX9, "part", "(I)F"⟩
abbrev cX9_neediest : ByteArray := prog_1_method_26_code
def yX9_neediest : MethodName := ⟨RX9, "neediest", "()I"⟩
abbrev cX9_writeMachines : ByteArray := prog_1_method_27_code
def yX9_writeMachines : MethodName := ⟨RX9, "writeMachines", "()I"⟩
abbrev cX9_writtenByte : ByteArray := prog_1_method_28_code
def yX9_writtenByte : MethodName := ⟨RX9, "writtenByte", "(I)I"⟩
abbrev cX9_undo : ByteArray := prog_1_method_29_code
def yX9_undo : MethodName := ⟨RX9, "undo", "()I"⟩
abbrev cX9_needUser : ByteArray := prog_1_method_30_code
def yX9_needUser : MethodName := ⟨RX9, "needUser", "(I)V"⟩
abbrev cX9_needLeaf : ByteArray := prog_1_method_31_code
def yX9_needLeaf : MethodName := ⟨RX9, "needLeaf", "(I)V"⟩
abbrev cX9_needMachine : ByteArray := prog_1_method_32_code
def yX9_needMachine : MethodName := ⟨RX9, "needMachine", "(I)V"⟩
abbrev cX9_needJob : ByteArray := prog_1_method_33_code
def yX9_needJob : MethodName := ⟨RX9, "needJob", "(I)V"⟩
abbrev cX9_needOpen : ByteArray := prog_1_method_34_code
def yX9_needOpen : MethodName := ⟨RX9, "needOpen", "(I)V"⟩
abbrev cX9_needRange : ByteArray := prog_1_method_35_code
def yX9_needRange : MethodName := ⟨RX9, "needRange", "(III)V"⟩
abbrev cX9_worthOf : ByteArray := prog_1_method_36_code
def yX9_worthOf : MethodName := ⟨RX9, "worthOf", "(III)J"⟩
def RX10 : String := "ShareTicketsModel"
def TX10 : u_T := fun k => match k with
  | 0 => ("ShareTicketsModel", "a", "[I", true)
  | 1 => ("ShareTicketsModel", "fresh", "[I", true)
  | 2 => ("ShareTicketsModel", "aside", "[I", true)
  | 3 => ("ShareTicketsModel", "kept", "[I", true)
  | 4 => ("ShareTicketsModel", "keptMany", "I", false)
  | 5 => ("ShareTicketsModel", "thrown", "I", false)
  | 6 => ("ShareTicketsModel", "buffer", "[I", true)
  | 7 => ("ShareTicketsModel", "buffered", "I", false)
  | 8 => ("ShareTicketsModel", "size", "I", false)
  | 9 => ("ShareTicketsModel", "at", "I", false)
  | 10 => ("ShareTicketsModel", "behind", "I", false)
  | 11 => ("ShareTicketsModel", "kind", "I", false)
  | 12 => ("ShareTicketsModel", "number", "I", false)
  | 13 => ("ShareTicketsModel", "wrong", "I", false)
  | 14 => ("ShareTicketsModel", "wrongAt", "I", false)
  | 15 => ("ShareTicketsModel", "errorAt", "I", false)
  | 16 => ("ShareTicketsModel", "tickets", "[I", true)
  | 17 => ("ShareTicketsModel", "wasted", "I", false)
  | 18 => ("ShareTicketsModel", "written", "[I", true)
  | _ => ("ShareTicketsModel", "writtenMany", "I", false)
def tyX10 : Nat → FieldType := fun k => match k with
  | 0 => .array .int
  | 1 => .array .int
  | 2 => .array .int
  | 3 => .array .int
  | 4 => .int
  | 5 => .int
  | 6 => .array .int
  | 7 => .int
  | 8 => .int
  | 9 => .int
  | 10 => .int
  | 11 => .int
  | 12 => .int
  | 13 => .int
  | 14 => .int
  | 15 => .int
  | 16 => .array .int
  | 17 => .int
  | 18 => .array .int
  | _ => .int
abbrev wsX100 : List Cond := u_ws RX10 TX10 20
theorem nmX10 : ∀ a, a < 20 → ∀ b, b < 20 → a ≠ b → (TX10 a).2.1 ≠ (TX10 b).2.1 := by decide +kernel
theorem tyX10_ok : ∀ k, k < 20 → parseFieldDescriptor (TX10 k).2.2.1 = some (tyX10 k) := by decide +kernel
abbrev cX10_init : ByteArray := prog_12_method_1_code
def yX10_init : MethodName := ⟨RX10, "<init>", "()V"⟩
abbrev cX10_begins : ByteArray := prog_12_method_2_code
def yX10_begins : MethodName := ⟨RX10, "begins", "()V"⟩
abbrev cX10_becomes : ByteArray := prog_12_method_3_code
def yX10_becomes : MethodName := ⟨RX10, "becomes", "([II)V"⟩
abbrev cX10_thrown : ByteArray := prog_12_method_4_code
def yX10_thrown : MethodName := ⟨RX10, "thrown", "()I"⟩
abbrev cX10_isIn : ByteArray := prog_12_method_5_code
def yX10_isIn : MethodName := ⟨RX10, "isIn", "(III)Z"⟩
abbrev cX10_keeps : ByteArray := prog_12_method_6_code
def yX10_keeps : MethodName := ⟨RX10, "keeps", "()V"⟩
abbrev cX10_undo : ByteArray := prog_12_method_7_code
def yX10_undo : MethodName := ⟨RX10, "undo", "()I"⟩
abbrev cX10_append : ByteArray := prog_12_method_8_code
def yX10_append : MethodName := ⟨RX10, "append", "(IIIII)I"⟩
abbrev cX10_see : ByteArray := prog_12_method_9_code
def yX10_see : MethodName := ⟨RX10, "see", "(I)I"⟩
abbrev cX10_isLetter : ByteArray := prog_12_method_10_code
def yX10_isLetter : MethodName := ⟨RX10, "isLetter", "(I)Z"⟩
abbrev cX10_isDigit : ByteArray := prog_12_method_11_code
def yX10_isDigit : MethodName := ⟨RX10, "isDigit", "(I)Z"⟩
abbrev cX10_next : ByteArray := prog_12_method_12_code
def yX10_next : MethodName := ⟨RX10, "next", "()V"⟩
abbrev cX10_isWord : ByteArray := prog_12_method_13_code
def yX10_isWord : MethodName := ⟨RX10, "isWord", "(Ljava/lang/String;)Z"⟩
abbrev cX10_fails : ByteArray := prog_12_method_14_code
def yX10_fails : MethodName := ⟨RX10, "fails", "(I)V"⟩
abbrev cX10_must : ByteArray := prog_12_method_15_code
def yX10_must : MethodName := ⟨RX10, "must", "(Z)V"⟩
abbrev cX10_takes : ByteArray := prog_12_method_16_code
def yX10_takes : MethodName := ⟨RX10, "takes", "(II)I"⟩
abbrev cX10_readsUser : ByteArray := prog_12_method_17_code
def yX10_readsUser : MethodName := ⟨RX10, "readsUser", "()V"⟩
abbrev cX10_readsMachine : ByteArray := prog_12_method_18_code
def yX10_readsMachine : MethodName := ⟨RX10, "readsMachine", "()V"⟩
abbrev cX10_readsJob : ByteArray := prog_12_method_19_code
def yX10_readsJob : MethodName := ⟨RX10, "readsJob", "()V"⟩
abbrev cX10_readsSetting : ByteArray := prog_12_method_20_code
def yX10_readsSetting : MethodName := ⟨RX10, "readsSetting", "(I)V"⟩
abbrev cX10_readsStatement : ByteArray := prog_12_method_21_code
def yX10_readsStatement : MethodName := ⟨RX10, "readsStatement", "()V"⟩
abbrev cX10_load : ByteArray := prog_12_method_22_code
def yX10_load : MethodName := ⟨RX10, "load", "(I)I"⟩
abbrev cX10_sets : ByteArray := prog_12_method_23_code
def yX10_sets : MethodName := ⟨RX10, "sets", "([I[I)V"⟩
abbrev cX10_errorPosition : ByteArray := prog_12_method_24_code
def yX10_errorPosition : MethodName := ⟨RX10, "errorPosition", "()I"⟩
abbrev cX10_isUser : ByteArray := prog_12_method_25_code
def yX10_isUser : MethodName := ⟨RX10, "isUser", "(I)Z"⟩
abbrev cX10_childrenOf : ByteArray := prog_12_method_26_code
def yX10_childrenOf : MethodName := ⟨RX10, "childrenOf", "(I)I"⟩
abbrev cX10_isLeaf : ByteArray := prog_12_method_27_code
def yX10_isLeaf : MethodName := ⟨RX10, "isLeaf", "(I)Z"⟩
abbrev cX10_hasJobs : ByteArray := prog_12_method_28_code
def yX10_hasJobs : MethodName := ⟨RX10, "hasJobs", "(I)Z"⟩
abbrev cX10_hasLoan : ByteArray := prog_12_method_29_code
def yX10_hasLoan : MethodName := ⟨RX10, "hasLoan", "(I)Z"⟩
abbrev cX10_addsUser : ByteArray := prog_12_method_30_code
def yX10_addsUser : MethodName := ⟨RX10, "addsUser", "(II)V"⟩
abbrev cX10_baseOf : ByteArray := prog_12_method_31_code
def yX10_baseOf : MethodName := ⟨RX10, "baseOf", "(I)I"⟩
abbrev cX10_isLent : ByteArray := prog_12_method_32_code
def yX10_isLent : MethodName := ⟨RX10, "isLent", "(I)Z"⟩
abbrev cX10_ticketsOf : ByteArray := prog_12_method_33_code
def yX10_ticketsOf : MethodName := ⟨RX10, "ticketsOf", "(I)I"⟩
abbrev cX10_isBelow : ByteArray := prog_12_method_34_code
def yX10_isBelow : MethodName := ⟨RX10, "isBelow", "(II)Z"⟩
abbrev cX10_useOf : ByteArray := prog_12_method_35_code
def yX10_useOf : MethodName := ⟨RX10, "useOf", "(I)I"⟩
abbrev cX10_jobsOf : ByteArray := prog_12_method_36_code
def yX10_jobsOf : MethodName := ⟨RX10, "jobsOf", "(II)I"⟩
abbrev cX10_user : ByteArray := prog_12_method_37_code
def yX10_user : MethodName := ⟨RX10, "user", "(II)I"⟩
abbrev cX10_addUser : ByteArray := prog_12_method_38_code
def yX10_addUser : MethodName := ⟨RX10, "addUser", "(II)I"⟩
abbrev cX10_setShares : ByteArray := prog_12_method_39_code
def yX10_setShares : MethodName := ⟨RX10, "setShares", "(II)I"⟩
abbrev cX10_lent : ByteArray := prog_12_method_40_code
def yX10_lent : MethodName := ⟨RX10, "lent", "(II)I"⟩
abbrev cX10_cannotLend : ByteArray := prog_12_method_41_code
def yX10_cannotLend : MethodName := ⟨RX10, "cannotLend", "(III)Z"⟩
abbrev cX10_lend : ByteArray := prog_12_method_42_code
def yX10_lend : MethodName := ⟨RX10, "lend", "(IIII)I"⟩
abbrev cX10_goneAt : ByteArray := prog_12_method_43_code
def yX10_goneAt : MethodName := ⟨RX10, "goneAt", "(I)I"⟩
abbrev cX10_loan : ByteArray := prog_12_method_44_code
def yX10_loan : MethodName := ⟨RX10, "loan", "(II)I"⟩
abbrev cX10_endsLoans : ByteArray := prog_12_method_45_code
def yX10_endsLoans : MethodName := ⟨RX10, "endsLoans", "()V"⟩
abbrev cX10_balance : ByteArray := prog_12_method_46_code
def yX10_balance : MethodName := ⟨RX10, "balance", "(I)I"⟩
abbrev cX10_worksTickets : ByteArray := prog_12_method_47_code
def yX10_worksTickets : MethodName := ⟨RX10, "worksTickets", "()V"⟩
abbrev cX10_worthOf : ByteArray := prog_12_method_48_code
def yX10_worthOf : MethodName := ⟨RX10, "worthOf", "(II)J"⟩
abbrev cX10_loadOf : ByteArray := prog_12_method_49_code
def yX10_loadOf : MethodName := ⟨RX10, "loadOf", "(I)I"⟩
abbrev cX10_jobWorth : ByteArray := prog_12_method_50_code
def yX10_jobWorth : MethodName := ⟨RX10, "jobWorth", "(I)J"⟩
abbrev cX10_bestWaiting : ByteArray := prog_12_method_51_code
def yX10_bestWaiting : MethodName := ⟨RX10, "bestWaiting", "()I"⟩
abbrev cX10_leastRunning : ByteArray := prog_12_method_52_code
def yX10_leastRunning : MethodName := ⟨RX10, "leastRunning", "(I)I"⟩
abbrev cX10_ranked : ByteArray := prog_12_method_53_code
def yX10_ranked : MethodName := ⟨RX10, "ranked", "(I)I"⟩
abbrev cX10_worth : ByteArray := prog_12_method_54_code
def yX10_worth : MethodName := ⟨RX10, "worth", "(II)J"⟩
abbrev cX10_isMachine : ByteArray := prog_12_method_55_code
def yX10_isMachine : MethodName := ⟨RX10, "isMachine", "(I)Z"⟩
abbrev cX10_isJob : ByteArray := prog_12_method_56_code
def yX10_isJob : MethodName := ⟨RX10, "isJob", "(I)Z"⟩
abbrev cX10_of : ByteArray := prog_12_method_57_code
def yX10_of : MethodName := ⟨RX10, "of", "(II)I"⟩
abbrev cX10_lays : ByteArray := prog_12_method_58_code
def yX10_lays : MethodName := ⟨RX10, "lays", "(III)V"⟩
abbrev cX10_runningOn : ByteArray := prog_12_method_59_code
def yX10_runningOn : MethodName := ⟨RX10, "runningOn", "(I)I"⟩
abbrev cX10_freeMachine : ByteArray := prog_12_method_60_code
def yX10_freeMachine : MethodName := ⟨RX10, "freeMachine", "()I"⟩
abbrev cX10_freeSlots : ByteArray := prog_12_method_61_code
def yX10_freeSlots : MethodName := ⟨RX10, "freeSlots", "()I"⟩
abbrev cX10_inState : ByteArray := prog_12_method_62_code
def yX10_inState : MethodName := ⟨RX10, "inState", "(I)I"⟩
abbrev cX10_runs : ByteArray := prog_12_method_63_code
def yX10_runs : MethodName := ⟨RX10, "runs", "(II)V"⟩
abbrev cX10_interrupts : ByteArray := prog_12_method_64_code
def yX10_interrupts : MethodName := ⟨RX10, "interrupts", "(I)V"⟩
abbrev cX10_fills : ByteArray := prog_12_method_65_code
def yX10_fills : MethodName := ⟨RX10, "fills", "()V"⟩
abbrev cX10_preempts : ByteArray := prog_12_method_66_code
def yX10_preempts : MethodName := ⟨RX10, "preempts", "()V"⟩
abbrev cX10_machine : ByteArray := prog_12_method_67_code
def yX10_machine : MethodName := ⟨RX10, "machine", "(II)I"⟩
abbrev cX10_job : ByteArray := prog_12_method_68_code
def yX10_job : MethodName := ⟨RX10, "job", "(II)I"⟩
abbrev cX10_first : ByteArray := prog_12_method_69_code
def yX10_first : MethodName := ⟨RX10, "first", "()I"⟩
abbrev cX10_addsJob : ByteArray := prog_12_method_70_code
def yX10_addsJob : MethodName := ⟨RX10, "addsJob", "(II)V"⟩
abbrev cX10_submit : ByteArray := prog_12_method_71_code
def yX10_submit : MethodName := ⟨RX10, "submit", "(II)I"⟩
abbrev cX10_ends : ByteArray := prog_12_method_72_code
def yX10_ends : MethodName := ⟨RX10, "ends", "(II)V"⟩
abbrev cX10_cancel : ByteArray := prog_12_method_73_code
def yX10_cancel : MethodName := ⟨RX10, "cancel", "(I)I"⟩
abbrev cX10_setUp : ByteArray := prog_12_method_74_code
def yX10_setUp : MethodName := ⟨RX10, "setUp", "(IZ)I"⟩
abbrev cX10_least : ByteArray := prog_12_method_75_code
def yX10_least : MethodName := ⟨RX10, "least", "(I)I"⟩
abbrev cX10_most : ByteArray := prog_12_method_76_code
def yX10_most : MethodName := ⟨RX10, "most", "(I)I"⟩
abbrev cX10_set : ByteArray := prog_12_method_77_code
def yX10_set : MethodName := ⟨RX10, "set", "(II)I"⟩
abbrev cX10_count : ByteArray := prog_12_method_78_code
def yX10_count : MethodName := ⟨RX10, "count", "(I)I"⟩
abbrev cX10_ticksOnce : ByteArray := prog_12_method_79_code
def yX10_ticksOnce : MethodName := ⟨RX10, "ticksOnce", "()I"⟩
abbrev cX10_tick : ByteArray := prog_12_method_80_code
def yX10_tick : MethodName := ⟨RX10, "tick", "(I)I"⟩
abbrev cX10_finishedIn : ByteArray := prog_12_method_81_code
def yX10_finishedIn : MethodName := ⟨RX10, "finishedIn", "(I)I"⟩
abbrev cX10_ahead : ByteArray := prog_12_method_82_code
def yX10_ahead : MethodName := ⟨RX10, "ahead", "(II)I"⟩
abbrev cX10_lackOf : ByteArray := prog_12_method_83_code
def yX10_lackOf : MethodName := ⟨RX10, "lackOf", "(I)I"⟩
abbrev cX10_drift : ByteArray := prog_12_method_84_code
def yX10_drift : MethodName := ⟨RX10, "drift", "()I"⟩
abbrev cX10_part : ByteArray := prog_12_method_85_code
def yX10_part : MethodName := ⟨RX10, "part", "(I)F"⟩
abbrev cX10_neediest : ByteArray := prog_12_method_86_code
def yX10_neediest : MethodName := ⟨RX10, "neediest", "()I"⟩
abbrev cX10_says : ByteArray := prog_12_method_87_code
def yX10_says : MethodName := ⟨RX10, "says", "(I)V"⟩
abbrev cX10_saysJobs : ByteArray := prog_12_method_88_code
def yX10_saysJobs : MethodName := ⟨RX10, "saysJobs", "(I)V"⟩
abbrev cX10_writeMachines : ByteArray := prog_12_method_89_code
def yX10_writeMachines : MethodName := ⟨RX10, "writeMachines", "()I"⟩
abbrev cX10_writtenByte : ByteArray := prog_12_method_90_code
def yX10_writtenByte : MethodName := ⟨RX10, "writtenByte", "(I)I"⟩
def RJx145de : String := "java/io/Serializable"
def TJx145de : u_T := fun k => match k with
  | _ => ("", "", "", false)
def tyJx145de : Nat → FieldType := fun k => match k with
  | _ => .int
abbrev wsJx145de0 : List Cond := u_ws RJx145de TJx145de 0
theorem nmJx145de : ∀ a, a < 0 → ∀ b, b < 0 → a ≠ b → (TJx145de a).2.1 ≠ (TJx145de b).2.1 := by decide +kernel
theorem tyJx145de_ok : ∀ k, k < 0 → parseFieldDescriptor (TJx145de k).2.2.1 = some (tyJx145de k) := by decide +kernel
def RJx9f9b0 : String := "java/lang/CharSequence"
def TJx9f9b0 : u_T := fun k => match k with
  | _ => ("", "", "", false)
def tyJx9f9b0 : Nat → FieldType := fun k => match k with
  | _ => .int
abbrev wsJx9f9b00 : List Cond := u_ws RJx9f9b0 TJx9f9b0 0
theorem nmJx9f9b0 : ∀ a, a < 0 → ∀ b, b < 0 → a ≠ b → (TJx9f9b0 a).2.1 ≠ (TJx9f9b0 b).2.1 := by decide +kernel
theorem tyJx9f9b0_ok : ∀ k, k < 0 → parseFieldDescriptor (TJx9f9b0 k).2.2.1 = some (tyJx9f9b0 k) := by decide +kernel
def RJxb160c : String := "java/lang/Comparable"
def TJxb160c : u_T := fun k => match k with
  | _ => ("", "", "", false)
def tyJxb160c : Nat → FieldType := fun k => match k with
  | _ => .int
abbrev wsJxb160c0 : List Cond := u_ws RJxb160c TJxb160c 0
theorem nmJxb160c : ∀ a, a < 0 → ∀ b, b < 0 → a ≠ b → (TJxb160c a).2.1 ≠ (TJxb160c b).2.1 := by decide +kernel
theorem tyJxb160c_ok : ∀ k, k < 0 → parseFieldDescriptor (TJxb160c k).2.2.1 = some (tyJxb160c k) := by decide +kernel
def RJ9 : String := "java/lang/Math"
def TJ9 : u_T := fun k => match k with
  | _ => ("", "", "", false)
def tyJ9 : Nat → FieldType := fun k => match k with
  | _ => .int
abbrev wsJ90 : List Cond := u_ws RJ9 TJ9 0
theorem nmJ9 : ∀ a, a < 0 → ∀ b, b < 0 → a ≠ b → (TJ9 a).2.1 ≠ (TJ9 b).2.1 := by decide +kernel
theorem tyJ9_ok : ∀ k, k < 0 → parseFieldDescriptor (TJ9 k).2.2.1 = some (tyJ9 k) := by decide +kernel
abbrev cJ9_abs_0f7a4 : ByteArray := prog_20_method_59_code
def yJ9_abs_0f7a4 : MethodName := ⟨RJ9, "abs", "(I)I"⟩
abbrev cJ9_max_7cf53 : ByteArray := prog_20_method_65_code
def yJ9_max_7cf53 : MethodName := ⟨RJ9, "max", "(II)I"⟩
abbrev cJ9_min_7cf53 : ByteArray := prog_20_method_69_code
def yJ9_min_7cf53 : MethodName := ⟨RJ9, "min", "(II)I"⟩
def RJ0 : String := "java/lang/String"
def TJ0 : u_T := fun k => match k with
  | _ => ("", "", "", false)
def tyJ0 : Nat → FieldType := fun k => match k with
  | _ => .int
abbrev wsJ00 : List Cond := u_ws RJ0 TJ0 0
theorem nmJ0 : ∀ a, a < 0 → ∀ b, b < 0 → a ≠ b → (TJ0 a).2.1 ≠ (TJ0 b).2.1 := by decide +kernel
theorem tyJ0_ok : ∀ k, k < 0 → parseFieldDescriptor (TJ0 k).2.2.1 = some (tyJ0 k) := by decide +kernel
abbrev cJ0_length_8abf5 : ByteArray := prog_22_method_54_code
def yJ0_length_8abf5 : MethodName := ⟨RJ0, "length", "()I"⟩
abbrev cJ0_charAt_5068e : ByteArray := prog_22_method_56_code
def yJ0_charAt_5068e : MethodName := ⟨RJ0, "charAt", "(I)C"⟩
abbrev cJ0_coder_7d493 : ByteArray := prog_22_method_152_code
def yJ0_coder_7d493 : MethodName := ⟨RJ0, "coder", "()B"⟩
abbrev cJ0_isLatin1_aae02 : ByteArray := prog_22_method_154_code
def yJ0_isLatin1_aae02 : MethodName := ⟨RJ0, "isLatin1", "()Z"⟩
abbrev cJ0_checkIndex_df160 : ByteArray := prog_22_method_155_code
def yJ0_checkIndex_df160 : MethodName := ⟨RJ0, "checkIndex", "(II)V"⟩
def RJ1 : String := "java/lang/StringLatin1"
def TJ1 : u_T := fun k => match k with
  | _ => ("", "", "", false)
def tyJ1 : Nat → FieldType := fun k => match k with
  | _ => .int
abbrev wsJ10 : List Cond := u_ws RJ1 TJ1 0
theorem nmJ1 : ∀ a, a < 0 → ∀ b, b < 0 → a ≠ b → (TJ1 a).2.1 ≠ (TJ1 b).2.1 := by decide +kernel
theorem tyJ1_ok : ∀ k, k < 0 → parseFieldDescriptor (TJ1 k).2.2.1 = some (tyJ1 k) := by decide +kernel
abbrev cJ1_charAt_3b067 : ByteArray := prog_23_method_2_code
def yJ1_charAt_3b067 : MethodName := ⟨RJ1, "charAt", "([BI)C"⟩
def RJ2 : String := "java/lang/StringUTF16"
def TJ2 : u_T := fun k => match k with
  | _ => ("", "", "", false)
def tyJ2 : Nat → FieldType := fun k => match k with
  | _ => .int
abbrev wsJ20 : List Cond := u_ws RJ2 TJ2 0
theorem nmJ2 : ∀ a, a < 0 → ∀ b, b < 0 → a ≠ b → (TJ2 a).2.1 ≠ (TJ2 b).2.1 := by decide +kernel
theorem tyJ2_ok : ∀ k, k < 0 → parseFieldDescriptor (TJ2 k).2.2.1 = some (tyJ2 k) := by decide +kernel
abbrev cJ2_getChar_3b067 : ByteArray := prog_24_method_5_code
def yJ2_getChar_3b067 : MethodName := ⟨RJ2, "getChar", "([BI)C"⟩
abbrev cJ2_length_9d52b : ByteArray := prog_24_method_6_code
def yJ2_length_9d52b : MethodName := ⟨RJ2, "length", "([B)I"⟩
abbrev cJ2_charAt_3b067 : ByteArray := prog_24_method_83_code
def yJ2_charAt_3b067 : MethodName := ⟨RJ2, "charAt", "([BI)C"⟩
abbrev cJ2_checkIndex_2214a : ByteArray := prog_24_method_91_code
def yJ2_checkIndex_2214a : MethodName := ⟨RJ2, "checkIndex", "(I[B)V"⟩
def RJ10 : String := "java/lang/System"
def TJ10 : u_T := fun k => match k with
  | _ => ("", "", "", false)
def tyJ10 : Nat → FieldType := fun k => match k with
  | _ => .int
abbrev wsJ100 : List Cond := u_ws RJ10 TJ10 0
theorem nmJ10 : ∀ a, a < 0 → ∀ b, b < 0 → a ≠ b → (TJ10 a).2.1 ≠ (TJ10 b).2.1 := by decide +kernel
theorem tyJ10_ok : ∀ k, k < 0 → parseFieldDescriptor (TJ10 k).2.2.1 = some (tyJ10 k) := by decide +kernel
def RJxfd54e : String := "java/lang/constant/Constable"
def TJxfd54e : u_T := fun k => match k with
  | _ => ("", "", "", false)
def tyJxfd54e : Nat → FieldType := fun k => match k with
  | _ => .int
abbrev wsJxfd54e0 : List Cond := u_ws RJxfd54e TJxfd54e 0
theorem nmJxfd54e : ∀ a, a < 0 → ∀ b, b < 0 → a ≠ b → (TJxfd54e a).2.1 ≠ (TJxfd54e b).2.1 := by decide +kernel
theorem tyJxfd54e_ok : ∀ k, k < 0 → parseFieldDescriptor (TJxfd54e k).2.2.1 = some (tyJxfd54e k) := by decide +kernel
def RJx3cf43 : String := "java/lang/constant/ConstantDesc"
def TJx3cf43 : u_T := fun k => match k with
  | _ => ("", "", "", false)
def tyJx3cf43 : Nat → FieldType := fun k => match k with
  | _ => .int
abbrev wsJx3cf430 : List Cond := u_ws RJx3cf43 TJx3cf43 0
theorem nmJx3cf43 : ∀ a, a < 0 → ∀ b, b < 0 → a ≠ b → (TJx3cf43 a).2.1 ≠ (TJx3cf43 b).2.1 := by decide +kernel
theorem tyJx3cf43_ok : ∀ k, k < 0 → parseFieldDescriptor (TJx3cf43 k).2.2.1 = some (tyJx3cf43 k) := by decide +kernel
def RJ3 : String := "jdk/internal/util/Preconditions"
def TJ3 : u_T := fun k => match k with
  | _ => ("", "", "", false)
def tyJ3 : Nat → FieldType := fun k => match k with
  | _ => .int
abbrev wsJ30 : List Cond := u_ws RJ3 TJ3 0
theorem nmJ3 : ∀ a, a < 0 → ∀ b, b < 0 → a ≠ b → (TJ3 a).2.1 ≠ (TJ3 b).2.1 := by decide +kernel
theorem tyJ3_ok : ∀ k, k < 0 → parseFieldDescriptor (TJ3 k).2.2.1 = some (tyJ3 k) := by decide +kernel
abbrev cJ3_checkIndex_8e157 : ByteArray := prog_30_method_11_code
def yJ3_checkIndex_8e157 : MethodName := ⟨RJ3, "checkIndex", "(IILjava/util/function/BiFunction;)I"⟩
def RL : String := "ShareTicketsLaw"
abbrev cL_append : ByteArray := method_3_code
def yL_append : MethodName := ⟨RL, "append", "(LShareTickets;IIIII[J)I"⟩
abbrev cL_load : ByteArray := method_4_code
def yL_load : MethodName := ⟨RL, "load", "(LShareTickets;I[J)I"⟩
abbrev cL_count : ByteArray := method_5_code
def yL_count : MethodName := ⟨RL, "count", "(LShareTickets;I[J)I"⟩
abbrev cL_user : ByteArray := method_6_code
def yL_user : MethodName := ⟨RL, "user", "(LShareTickets;II[J)I"⟩
abbrev cL_addUser : ByteArray := method_7_code
def yL_addUser : MethodName := ⟨RL, "addUser", "(LShareTickets;II[J)I"⟩
abbrev cL_setShares : ByteArray := method_8_code
def yL_setShares : MethodName := ⟨RL, "setShares", "(LShareTickets;II[J)I"⟩
abbrev cL_lend : ByteArray := method_9_code
def yL_lend : MethodName := ⟨RL, "lend", "(LShareTickets;IIII[J)I"⟩
abbrev cL_loan : ByteArray := method_10_code
def yL_loan : MethodName := ⟨RL, "loan", "(LShareTickets;II[J)I"⟩
abbrev cL_balance : ByteArray := method_11_code
def yL_balance : MethodName := ⟨RL, "balance", "(LShareTickets;I[J)I"⟩
abbrev cL_ranked : ByteArray := method_12_code
def yL_ranked : MethodName := ⟨RL, "ranked", "(LShareTickets;I[J)I"⟩
abbrev cL_worth : ByteArray := method_13_code
def yL_worth : MethodName := ⟨RL, "worth", "(LShareTickets;II[J)I"⟩
abbrev cL_machine : ByteArray := method_14_code
def yL_machine : MethodName := ⟨RL, "machine", "(LShareTickets;II[J)I"⟩
abbrev cL_job : ByteArray := method_15_code
def yL_job : MethodName := ⟨RL, "job", "(LShareTickets;II[J)I"⟩
abbrev cL_first : ByteArray := method_16_code
def yL_first : MethodName := ⟨RL, "first", "(LShareTickets;[J)I"⟩
abbrev cL_submit : ByteArray := method_17_code
def yL_submit : MethodName := ⟨RL, "submit", "(LShareTickets;II[J)I"⟩
abbrev cL_cancel : ByteArray := method_18_code
def yL_cancel : MethodName := ⟨RL, "cancel", "(LShareTickets;I[J)I"⟩
abbrev cL_setUp : ByteArray := method_19_code
def yL_setUp : MethodName := ⟨RL, "setUp", "(LShareTickets;IZ[J)I"⟩
abbrev cL_set : ByteArray := method_20_code
def yL_set : MethodName := ⟨RL, "set", "(LShareTickets;II[J)I"⟩
abbrev cL_tick : ByteArray := method_21_code
def yL_tick : MethodName := ⟨RL, "tick", "(LShareTickets;I[J)I"⟩
abbrev cL_finishedIn : ByteArray := method_22_code
def yL_finishedIn : MethodName := ⟨RL, "finishedIn", "(LShareTickets;I[J)I"⟩
abbrev cL_ahead : ByteArray := method_23_code
def yL_ahead : MethodName := ⟨RL, "ahead", "(LShareTickets;II[J)I"⟩
abbrev cL_part : ByteArray := method_24_code
def yL_part : MethodName := ⟨RL, "part", "(LShareTickets;I[D)I"⟩
abbrev cL_writtenByte : ByteArray := method_25_code
def yL_writtenByte : MethodName := ⟨RL, "writtenByte", "(LShareTickets;I[J)I"⟩
abbrev cL_undo : ByteArray := method_26_code
def yL_undo : MethodName := ⟨RL, "undo", "(LShareTickets;[J)I"⟩
abbrev cL_law : ByteArray := code
def yL_law : MethodName := ⟨RL, "law", "([I)Z"⟩
end
section
/-! THE LAYER: an abstract walk. A heap of cells by numbers (a_E), values whose references are numbers, and one judgement AW: 'from here on, over any machine state that shows this, the walk W comes to its goal'. Rows r_.. turn AW at an instruction into AW at the next; contracts AM are methods by their answers. -/
abbrev a_cls : List vw_C := [(RX0, TX0, 3), (RX1, TX1, 8), (RX2, TX2, 6), (RX3, TX3, 3), (RX4, TX4, 2), (RX5, TX5, 9), (RX6, TX6, 6), (RX7, TX7, 7), (RX8, TX8, 5), (RX9, TX9, 5), (RX10, TX10, 20)]
/-- the words that every method carries -/
def a_GT : List Cond := lw_tbl.filter goodWord
theorem a_GT_good : ∀ w ∈ a_GT, goodWord w = true := fun w h => (List.mem_filter.mp h).2
theorem a_GT_in : GoodIn a_GT a_GT := fun w h => ⟨h, good_of_word (a_GT_good w h)⟩
/-- words that are not of that kind, but stay as well -/
def a_nw : Cond → Bool
  | .castable .. => true
  | .declares .. => true
  | .fieldLinkNest .. => true
  | .methodLinkNest .. => true
  | .arrayOver (.object _) => true
  | _ => false
def a_GN : List Cond := tables_1.filter a_nw
theorem a_GN_nw : ∀ w ∈ a_GN, a_nw w = true := fun w h => (List.mem_filter.mp h).2
theorem a_nw_warm {w : Cond} (hw : a_nw w = true) {s U : State} (hW : s.WarmedH U.vm) (h : va_Nw w s) : va_Nw w U := by
  cases w with
  | castable C T => exact va_Nw.warmC hW h
  | declares x => exact va_Nw.warmD hW h
  | fieldLinkNest a i b n d h' => exact va_Nw.warmF hW h
  | methodLinkNest a i x h' => exact va_Nw.warmM hW h
  | arrayOver ty =>
    cases ty with
    | object C => exact va_AO.moved hW.alike h
    | _ => simp [a_nw] at hw
  | _ => simp [a_nw] at hw
/-- a cell: an array (kind of its elements, length and contents) or an object (its class's number, its fields) -/
abbrev a_E : Type := (Nat × vp_A) ⊕ (Nat × List Value)
def a_ty : Nat → FieldType
  | 0 => .int
  | 1 => .byte
  | 2 => .long
  | 3 => .double
  | _ => .object RX5
/-- what a run's walk is given: class numbers and slots, where new cells begin, where old things lie, the script's length and ints -/
abbrev a_V : Type := va_G × Nat × (Nat → Nat) × Nat × (Nat → Int32)
def a_ad (V : a_V) (c : Nat) : Nat := if c < 5000 then V.2.1 + c else V.2.2.1 (c - 5000)
def a_cv (V : a_V) : Value → Value
  | .ref c => .ref (a_ad V c)
  | v => v
def a_ca (V : a_V) (a : vp_A) : vp_A := (a.1, match a.2 with
  | .inr (.inr (.inr (.inr f))) => .inr (.inr (.inr (.inr (fun j => (f j).map (a_ad V)))))
  | z => z)
def a_A (V : a_V) : Nat → Prop := fun q => V.2.1 ≤ q
/-- the numbered cells and the kit's world of them -/
def a_C (V : a_V) (h : List a_E) (ws : va_W) (tys : List (ClassId × FieldType)) : Prop :=
  ws.length = h.length ∧ ∀ (c : Nat) (e : a_E), h[c]? = some e → match e with
    | .inr o => ws[c]? = some (a_ad V c, .inr (o.1, o.2.map (a_cv V)))
    | .inl a => ∃ (cA : ClassId) (t0 : Nat), ws[c]? = some (a_ad V c, .inl (cA, a_ca V a.2)) ∧ tys[t0]? = some (cA, a_ty a.1)
abbrev a_H : Type := Bool × List a_E
def a_HP (V : a_V) (h : List a_E) (H : Heap) (s : State) (ws : va_W) (tys : List (ClassId × FieldType)) : Prop :=
  a_C V h ws tys ∧ va_P V.1 a_cls ws H ∧ va_D (a_A V) ws ∧ va_K V.1 a_cls tys s
/-- clean: no cell is new but the numbered ones -/
def a_cl (V : a_V) (h : a_H) (n : Nat) : Prop := h.1 = true → n = V.2.1 + h.2.length ∧ h.2.length ≤ 5000
theorem a_C.objAt {V : a_V} {h : List a_E} {ws : va_W} {tys : List (ClassId × FieldType)} (hC : a_C V h ws tys) {c ci : Nat} {vs : List Value} (hc : h[c]? = some (.inr (ci, vs))) : ws[c]? = some (a_ad V c, .inr (ci, vs.map (a_cv V))) := hC.2 c _ hc
theorem a_C.arrAt {V : a_V} {h : List a_E} {ws : va_W} {tys : List (ClassId × FieldType)} (hC : a_C V h ws tys) {c t : Nat} {a : vp_A} (hc : h[c]? = some (.inl (t, a))) : ∃ (cA : ClassId) (t0 : Nat), ws[c]? = some (a_ad V c, .inl (cA, a_ca V a)) ∧ tys[t0]? = some (cA, a_ty t) := hC.2 c _ hc
theorem a_C.setO {V : a_V} {h : List a_E} {ws : va_W} {tys : List (ClassId × FieldType)} (hC : a_C V h ws tys) {c ci : Nat} {vs : List Value} (hc : h[c]? = some (.inr (ci, vs))) (vs' : List Value) :
    a_C V (h.set c (.inr (ci, vs'))) (ws.set c (a_ad V c, .inr (ci, vs'.map (a_cv V)))) tys := by
  obtain ⟨h1, h2⟩ := hC
  have hl : c < h.length := (List.getElem?_eq_some_iff.mp hc).1
  refine ⟨by simp [h1], fun b e hb => ?_⟩
  by_cases hbc : b = c
  · subst hbc
    rw [List.getElem?_set_self hl] at hb
    cases hb
    show (ws.set b _)[b]? = _
    rw [List.getElem?_set_self (by omega)]
  · rw [List.getElem?_set_ne (Ne.symm hbc)] at hb
    have h3 := h2 b e hb
    cases e with
    | inr o =>
      show (ws.set c _)[b]? = _
      rw [List.getElem?_set_ne (Ne.symm hbc)]
      exact h3
    | inl a =>
      obtain ⟨cA, t0, e1, e2⟩ := h3
      exact ⟨cA, t0, by rw [List.getElem?_set_ne (Ne.symm hbc)]; exact e1, e2⟩
theorem a_C.setA {V : a_V} {h : List a_E} {ws : va_W} {tys : List (ClassId × FieldType)} (hC : a_C V h ws tys) {c t t0 : Nat} {a : vp_A} {cA : ClassId} (hc : h[c]? = some (.inl (t, a))) (ht : tys[t0]? = some (cA, a_ty t)) (a' : vp_A) :
    a_C V (h.set c (.inl (t, a'))) (ws.set c (a_ad V c, .inl (cA, a_ca V a'))) tys := by
  obtain ⟨h1, h2⟩ := hC
  have hl : c < h.length := (List.getElem?_eq_some_iff.mp hc).1
  refine ⟨by simp [h1], fun b e hb => ?_⟩
  by_cases hbc : b = c
  · subst hbc
    rw [List.getElem?_set_self hl] at hb
    cases hb
    exact ⟨cA, t0, by rw [List.getElem?_set_self (by omega)], ht⟩
  · rw [List.getElem?_set_ne (Ne.symm hbc)] at hb
    have h3 := h2 b e hb
    cases e with
    | inr o =>
      show (ws.set c _)[b]? = _
      rw [List.getElem?_set_ne (Ne.symm hbc)]
      exact h3
    | inl a =>
      obtain ⟨cA, t0, e1, e2⟩ := h3
      exact ⟨cA, t0, by rw [List.getElem?_set_ne (Ne.symm hbc)]; exact e1, e2⟩
theorem a_C.pushO {V : a_V} {h : List a_E} {ws : va_W} {tys : List (ClassId × FieldType)} (hC : a_C V h ws tys) (ci : Nat) (vs : List Value) :
    a_C V (h ++ [.inr (ci, vs)]) (ws ++ [(a_ad V h.length, .inr (ci, vs.map (a_cv V)))]) tys := by
  obtain ⟨h1, h2⟩ := hC
  refine ⟨by simp [h1], fun b e hb => ?_⟩
  by_cases hbc : b < h.length
  · rw [List.getElem?_append_left hbc] at hb
    have h3 := h2 b e hb
    cases e with
    | inr o =>
      show (ws ++ _)[b]? = _
      rw [List.getElem?_append_left (by omega)]
      exact h3
    | inl a =>
      obtain ⟨cA, t0, e1, e2⟩ := h3
      exact ⟨cA, t0, by rw [List.getElem?_append_left (by omega)]; exact e1, e2⟩
  · rw [List.getElem?_append_right (by omega)] at hb
    have hz : b - h.length < 1 := (List.getElem?_eq_some_iff.mp hb).1
    have hbe : b = h.length := by omega
    subst hbe
    rw [Nat.sub_self] at hb
    cases hb
    show (ws ++ _)[h.length]? = _
    rw [List.getElem?_append_right (by omega), h1, Nat.sub_self]
    rfl
theorem a_C.pushA {V : a_V} {h : List a_E} {ws : va_W} {tys : List (ClassId × FieldType)} (hC : a_C V h ws tys) (cA : ClassId) (t : Nat) (a : vp_A) :
    a_C V (h ++ [.inl (t, a)]) (ws ++ [(a_ad V h.length, .inl (cA, a_ca V a))]) (tys ++ [(cA, a_ty t)]) := by
  obtain ⟨h1, h2⟩ := hC
  refine ⟨by simp [h1], fun b e hb => ?_⟩
  by_cases hbc : b < h.length
  · rw [List.getElem?_append_left hbc] at hb
    have h3 := h2 b e hb
    cases e with
    | inr o =>
      show (ws ++ _)[b]? = _
      rw [List.getElem?_append_left (by omega)]
      exact h3
    | inl a =>
      obtain ⟨cA, t0, e1, e2⟩ := h3
      exact ⟨cA, t0, by rw [List.getElem?_append_left (by omega)]; exact e1, by rw [List.getElem?_append_left ((List.getElem?_eq_some_iff.mp e2).1)]; exact e2⟩
  · rw [List.getElem?_append_right (by omega)] at hb
    have hz : b - h.length < 1 := (List.getElem?_eq_some_iff.mp hb).1
    have hbe : b = h.length := by omega
    subst hbe
    rw [Nat.sub_self] at hb
    cases hb
    refine ⟨cA, tys.length, ?_, ?_⟩
    · rw [List.getElem?_append_right (by omega), h1, Nat.sub_self]; rfl
    · rw [List.getElem?_append_right (by omega), Nat.sub_self]; rfl
/-- what lies outside: the script, the three static arrays, the Strings, two statics of Throwable -/
def a_sn : Nat → String
  | 0 => "FIRST_SETTING"
  | 1 => "LEAST_SETTING"
  | _ => "GREATEST_SETTING"
def a_sv : Nat → List Int32
  | 0 => [10, 50, 5]
  | 1 => [1, 0, 1]
  | _ => [50, 400, 20]
def a_kw : List (List Int32) := [[117, 115, 101, 114], [109, 97, 99, 104, 105, 110, 101], [106, 111, 98], [104, 97, 108, 102], [109, 97, 114, 103, 105, 110], [99, 104, 101, 99, 107]]
def a_kt : List String := ["user", "machine", "job", "half", "margin", "check"]
def a_kc : List (String × Nat × Nat) := [(RX7, 56, 0), (RX7, 66, 1), (RX7, 71, 2), (RX7, 76, 3), (RX7, 81, 4), (RX7, 83, 5), (RX10, 131, 0), (RX10, 140, 1), (RX10, 145, 2), (RX10, 150, 3), (RX10, 155, 4), (RX10, 157, 5)]
def a_ex : List String := ["java/lang/IllegalStateException", "java/lang/IllegalArgumentException", "java/lang/IndexOutOfBoundsException", "java/util/NoSuchElementException"]
def a_X (V : a_V) (U : State) (H : Heap) : Prop :=
  (va_X (a_ad V 5000) V.2.2.2.1 V.2.2.2.2 U H ∧ a_ad V 5000 < V.2.1) ∧
  (∀ k, k < 3 → va_Z RX9 (a_sn k) "[I" (.ref (a_ad V (5001 + k))) (a_A V) U H ∧ va_T .int (a_ad V (5001 + k)) 3 (fun j => .int ((a_sv k).getD j 0)) (a_A V) U H) ∧
  (∀ k, k < 6 → va_O "java/lang/String" (a_ad V (5010 + k)) (a_A V) U H ∧ va_OF "java/lang/String" "coder" "B" (.int 0) (a_ad V (5010 + k)) (a_A V) U H ∧ va_OF "java/lang/String" "value" "[B" (.ref (a_ad V (5020 + k))) (a_ad V (5010 + k)) (a_A V) U H ∧ va_T .byte (a_ad V (5020 + k)) (a_kw.getD k []).length (fun j => .int ((a_kw.getD k []).getD j 0)) (a_A V) U H) ∧
  (∀ q ∈ a_kc, vk_R q.1 q.2.1 (a_kt.getD q.2.2 "") (a_ad V (5010 + q.2.2)) U) ∧
  (∀ own k tx, Cond.stringRef own k tx ∈ tables_1 → ∃ sa, vk_R own k tx sa U) ∧
  vx_Zq Bundle.tN "UNASSIGNED_STACK" Bundle.steD (a_A V) U H ∧ vx_Zq Bundle.tN "SUPPRESSED_SENTINEL" Bundle.listD (a_A V) U H ∧
  va_Z "java/lang/String" "COMPACT_STRINGS" "Z" (.int 1) (a_A V) U H ∧ (∀ x ∈ a_ex, ∀ y ∈ a_ex, x ≠ y → va_Nc x y U) ∧ (∀ w ∈ a_GN, va_Nw w U)
/-- a method as the walk sees it: class, bytes, locals, handlers, a constructor?, answer, depth, cells, slots -/
abbrev a_I : Type := String × ByteArray × Nat × List (Nat × Nat × Nat × Nat) × Bool × Option FieldType × Nat × Nat × Nat × Option (Nat × (Nat → Int32))
abbrev i_own (I : a_I) : String := I.1
abbrev i_cc (I : a_I) : ByteArray := I.2.1
abbrev i_nL (I : a_I) : Nat := I.2.2.1
abbrev i_hh (I : a_I) : List (Nat × Nat × Nat × Nat) := I.2.2.2.1
abbrev i_ini (I : a_I) : Bool := I.2.2.2.2.1
abbrev i_ret (I : a_I) : Option FieldType := I.2.2.2.2.2.1
abbrev i_d (I : a_I) : Nat := I.2.2.2.2.2.2.1
abbrev i_mc (I : a_I) : Nat := I.2.2.2.2.2.2.2.1
abbrev i_ms (I : a_I) : Nat := I.2.2.2.2.2.2.2.2.1
abbrev i_xs (I : a_I) : Option (Nat × (Nat → Int32)) := I.2.2.2.2.2.2.2.2.2
/-- an answer, or the name of what was thrown -/
abbrev a_O : Type := Option Value ⊕ String
abbrev a_Q : Type := a_O → a_H → Prop
def a_CT (V : a_V) (I : a_I) (p : Program) (l : Launch) (R : Room) (s : State) (m : MethodId) (args : Array Value) (meth : Method) (c : Code) : Prop :=
  p.tables.exec = Jvm.exec ∧ c.code = i_cc I ∧ c.maxLocals = i_nL I ∧ s.vm.findClass (i_own I) = some m.cls ∧ (∀ w ∈ a_GT, w.before args s = true) ∧ meth.locks = false ∧ l.stackTraces = false ∧
  (i_d I ≤ R.frames ∧ 60 * i_d I ≤ R.locals ∧ R.cells = i_mc I ∧ R.slots = i_ms I) ∧ c.exceptionTable.toList = tableOf (i_hh I) ∧ (i_ini I = true → meth.name = "<init>") ∧ a_X V s s.heap ∧ V.2.1 ≤ s.heap.size ∧ (∀ q, i_xs I = some q → V.2.2.2.1 = q.1 ∧ V.2.2.2.2 = q.2)
def a_rd (cc : ByteArray) (pc : Nat) (v : Option Value) : Prop := match v with
  | none => decode cc pc = .ok (.return_, 1)
  | some (.int _) => decode cc pc = .ok (.ireturn, 1)
  | some (.long _) => decode cc pc = .ok (.lreturn, 1)
  | some (.float _) => decode cc pc = .ok (.freturn, 1)
  | _ => False
def a_ok (ret : Option FieldType) (v : Option Value) : Prop := match v with
  | none => ret = none
  | some (.int x) => ∃ ty, ret = some ty ∧ narrow ty (.int x) = .int x
  | some (.long _) => ret = some .long
  | some (.float _) => ret = some .float
  | _ => False
/-- a place where a new exception with a text is made and thrown -/
def a_th (I : a_I) (pc : Nat) (E : String) : Prop :=
  ∃ (ik is ic : Nat) (tx : String), E ∈ a_ex ∧
    Cond.classLink (i_own I) ik E ∈ a_GT ∧ Cond.initialized E ∈ a_GT ∧ Cond.stringRef (i_own I) is tx ∈ tables_1 ∧
    (∀ w ∈ vx_atS (i_own I) ic E ["java/lang/RuntimeException", "java/lang/Exception"], w ∈ a_GT ∨ (w ∈ a_GN ∧ w.onTables = true)) ∧
    decode (i_cc I) pc = .ok (.new ik, 3) ∧ decode (i_cc I) (pc + 3) = .ok (.dup, 1) ∧
    ((decode (i_cc I) (pc + 4) = .ok (.ldc is, 2) ∧ decode (i_cc I) (pc + 6) = .ok (.invokespecial ic, 3) ∧ decode (i_cc I) (pc + 9) = .ok (.athrow, 1)) ∨
     (decode (i_cc I) (pc + 4) = .ok (.ldc_w is, 3) ∧ decode (i_cc I) (pc + 7) = .ok (.invokespecial ic, 3) ∧ decode (i_cc I) (pc + 10) = .ok (.athrow, 1)))
def a_RT (V : a_V) (I : a_I) (p : Program) (l : Launch) (e : Env) (R : Room) (s : State) (m : MethodId) (args : Array Value) (below : List Frame) (meth : Method) (c : Code) (Gl : State → Prop) (Q : a_Q) : Prop :=
  (∀ (H : Heap) (locs : List Loc) (h : a_H) (ws : va_W) (tys : List (ClassId × FieldType)) (pc : Nat) (ls : Array Slot) (v : Option Value), a_HP V h.2 H s ws tys → va_S (a_A V) s.heap H locs → Q (.inl v) h → a_rd (i_cc I) pc v → a_ok (i_ret I) v →
    W p l e R s m args below meth c H locs (i_mc I) (i_ms I) Gl (F0 m pc ls (v.map (a_cv V)).toList)) ∧
  (i_hh I = [] → ∀ (H : Heap) (locs : List Loc) (h : a_H) (ws : va_W) (tys : List (ClassId × FieldType)) (pc : Nat) (ls : Array Slot) (rest : List Value) (E : String) (ce : Cell) (q : Addr), a_HP V h.2 H s ws tys → va_S (a_A V) s.heap H locs → Q (.inr E) h → H[q]? = some ce → ce.vm = .none → s.vm.findClass E = some ce.cls →
    vx_W p l e R s m args below meth c H locs (i_mc I) (i_ms I) Gl (F0 m pc ls rest) q) ∧
  (i_hh I = [] → ∀ (H : Heap) (locs : List Loc) (h : a_H) (ws : va_W) (tys : List (ClassId × FieldType)) (pc : Nat) (ls : Array Slot) (rest : List Value) (E : String) (uc us : Nat), a_HP V h.2 H s ws tys → va_S (a_A V) s.heap H locs → Q (.inr E) (false, h.2) → a_th I pc E → 6 ≤ i_d I → (rest.map fun v => v.category).sum ≤ 200 → uc + 1 ≤ i_mc I → us + 6 ≤ i_ms I → ls.size = c.maxLocals →
    W p l e R s m args below meth c H locs uc us Gl (F0 m pc ls rest))
/-- the locals: what the list has is there; .null in the list: unknown -/
def a_L (V : a_V) (lsC : Array Slot) (nL : Nat) (ls : List Value) : Prop :=
  lsC.size = nL ∧ lv_wf lsC ∧ ∀ (i : Nat) (v : Value), ls[i]? = some v → v ≠ .null → lsC[i]? = some (.val (a_cv V v))
def AW (I : a_I) (pc : Nat) (ls st : List Value) (h : a_H) (uc us : Nat) (Q : a_Q) : Prop :=
  ∀ (V : a_V) (p : Program) (l : Launch) (e : Env) (R : Room) (s : State) (m : MethodId) (args : Array Value) (below : List Frame) (meth : Method) (c : Code) (H : Heap) (locs : List Loc) (Gl : State → Prop) (ws : va_W) (tys : List (ClassId × FieldType)) (lsC : Array Slot),
    a_CT V I p l R s m args meth c → a_RT V I p l e R s m args below meth c Gl Q → a_cl V h (s.heap.size + uc) → a_HP V h.2 H s ws tys → va_S (a_A V) s.heap H locs → uc ≤ i_mc I → us ≤ i_ms I → a_L V lsC (i_nL I) ls →
    W p l e R s m args below meth c H locs uc us Gl (F0 m pc lsC (st.map (a_cv V)))
def a_rm (d mc ms : Nat) : Room := { frames := d, cells := mc, slots := ms, locals := 60 * d }
def a_Pre (V : a_V) (h : a_H) (U : State) : Prop := (∃ ws tys, a_HP V h.2 U.heap U ws tys) ∧ a_X V U U.heap ∧ a_cl V h U.heap.size ∧ V.2.1 ≤ U.heap.size
def a_Qc (V : a_V) (Q : a_Q) : Array Value → State → Outcome → State → Prop := fun _ st o t =>
  (∃ (v : Option Value) (h : a_H), o = .returned (v.map (a_cv V)) ∧ Q (.inl v) h ∧ ∃ ws tys, a_HP V h.2 t.heap t ws tys) ∧ va_F (a_A V) st t
def a_XC (V : a_V) (Q : a_Q) : String → State → State → Prop := fun E st t =>
  (∃ h : a_H, Q (.inr E) h ∧ ∃ ws tys, a_HP V h.2 t.heap t ws tys) ∧ va_F (a_A V) st t
def a_cd (y : MethodName) (I : a_I) : Cond := if i_hh I = [] then .code y (i_cc I) (i_nL I) (i_ret I) else .codeWith y (i_cc I) (i_nL I) (i_ret I) (i_hh I)
/-- a method's contract: from these arguments and this heap it comes to Q -/
def AM (y : MethodName) (I : a_I) (args : List Value) (h : a_H) (Q : a_Q) : Prop :=
  ∀ (l : Launch) (V : a_V), l.stackTraces = false →
    vx_Met l y (a_cd y I :: a_GT) (a_rm (i_d I) (i_mc I) (i_ms I)) (va_Pc (args.map (a_cv V)) (a_Pre V h)) (a_Qc V Q) (a_XC V Q) (i_mc I) (i_ms I) (a_A V)
/-- .. to just one answer and heap -/
def AD (y : MethodName) (I : a_I) (args : List Value) (h : a_H) (o : a_O) (h' : a_H) : Prop := ∀ Q : a_Q, Q o h' → AM y I args h Q
theorem a_HP.moved {V : a_V} {h : List a_E} {H : Heap} {s t : State} {ws : va_W} {tys : List (ClassId × FieldType)} (hvm : s.vm.Alike t.vm) (hP : a_HP V h H s ws tys) : a_HP V h H t ws tys :=
  ⟨hP.1, hP.2.1, hP.2.2.1, va_K.moved hvm hP.2.2.2⟩
theorem a_X.moved {V : a_V} {u U : State} {H : Heap} (hW : u.WarmedH U.vm) (h : a_X V u H) : a_X V U H := by
  have hvm := hW.alike
  obtain ⟨⟨h1, h1b⟩, h2, h3, h4, h5, h6, h7, h8, h9, h10⟩ := h
  exact ⟨⟨va_X.moved hvm h1, h1b⟩, fun k hk => ⟨va_Z.moved hvm (h2 k hk).1, va_T.moved hvm (h2 k hk).2⟩, fun k hk => ⟨va_O.moved hvm (h3 k hk).1, va_OF.moved hvm (h3 k hk).2.1, va_OF.moved hvm (h3 k hk).2.2.1, va_T.moved hvm (h3 k hk).2.2.2⟩,
    fun q hq => vk_R.warm hW (h4 q hq), fun own k tx hq => by obtain ⟨sa, h⟩ := h5 own k tx hq; exact ⟨sa, vk_R.warm hW h⟩, vx_Zq.moved hvm h6, vx_Zq.moved hvm h7, va_Z.moved hvm h8, fun x hx y hy hn => va_Nc.moved hvm (h9 x hx y hy hn), fun w hw => a_nw_warm (a_GN_nw w hw) hW (h10 w hw)⟩
theorem a_X.kept {V : a_V} {U : State} {H H1 : Heap} (h : a_X V U H) (hB : V.2.1 ≤ H.size) (hq : ∀ a : Nat, a < H.size → ¬ a_A V a → H1[a]? = H[a]?) : a_X V U H1 := by
  obtain ⟨⟨h1, h1b⟩, h2, h3, h4, h5, h6, h7, h8, h9, h10⟩ := h
  exact ⟨⟨va_X.kept h1 (hq _ (by omega) (by unfold a_A; omega)), h1b⟩, fun k hk => ⟨va_Z.kept (h2 k hk).1 hq, va_T.kept (h2 k hk).2 hq⟩, fun k hk => ⟨va_O.kept (h3 k hk).1 hq, va_OF.kept (h3 k hk).2.1 hq, va_OF.kept (h3 k hk).2.2.1 hq, va_T.kept (h3 k hk).2.2.2 hq⟩,
    h4, h5, vx_Zq.kept h6 hq, vx_Zq.kept h7 hq, va_Z.kept h8 hq, h9, h10⟩
theorem a_Pre.blind {av : List Value} {V : a_V} {h : a_H} : FrameBlind (va_Pc av (a_Pre V h)) := fun a U g mk hp => by
  obtain ⟨e, ⟨ws, tys, hP⟩, hX, h3⟩ := hp
  exact ⟨e, ⟨ws, tys, hP⟩, a_X.moved (U := U.calling g mk a) (State.WarmedH.refl U) hX, h3⟩
theorem a_cv_cat (V : a_V) (v : Value) : (a_cv V v).category = v.category := by cases v <;> rfl
def a_ll (V : a_V) (ls : List Value) : List (Nat × Value) := (List.range ls.length).filterMap (fun i => match ls[i]? with
  | some v => if v = .null then none else some (i, a_cv V v)
  | none => none)
theorem a_ll_mem {V : a_V} {ls : List Value} {q : Nat × Value} : q ∈ a_ll V ls ↔ ∃ v, ls[q.1]? = some v ∧ v ≠ .null ∧ q.2 = a_cv V v := by
  unfold a_ll
  rw [List.mem_filterMap]
  constructor
  · rintro ⟨i, hi, h⟩
    cases hv : ls[i]? with
    | none => simp [hv] at h
    | some v =>
      by_cases hn : v = .null
      · simp [hv, hn] at h
      · simp [hv, hn] at h
        subst h
        exact ⟨v, hv, hn, rfl⟩
  · rintro ⟨v, h1, h2, h3⟩
    refine ⟨q.1, List.mem_range.mpr (List.getElem?_eq_some_iff.mp h1).1, ?_⟩
    simp [h1, h2, ← h3]
theorem a_L.has {V : a_V} {lsC : Array Slot} {nL : Nat} {ls : List Value} (h : a_L V lsC nL ls) : lv_has lsC nL (a_ll V ls) := by
  refine ⟨h.1, h.2.1, fun q hq => ?_⟩
  obtain ⟨v, h1, h2, h3⟩ := a_ll_mem.mp hq
  rw [h3]
  exact h.2.2 q.1 v h1 h2
theorem a_L.st1 {V : a_V} {lsC : Array Slot} {nL i : Nat} {ls : List Value} {v : Value} (hk : ∀ j w, ls[j]? = some w → j + 1 = i → w.category = 1)
    (h : lv_has lsC nL ((i, a_cv V v) :: (a_ll V ls).filter (fun q => !(q.1 == i) && !(q.1 + 1 == i && q.2.category == 2)))) : a_L V lsC nL (ls.set i v) := by
  refine ⟨h.1, h.2.1, fun j w hj hw => ?_⟩
  by_cases hji : j = i
  · subst hji
    have hl : j < ls.length := by have := (List.getElem?_eq_some_iff.mp hj).1; simpa using this
    rw [List.getElem?_set_self hl] at hj
    cases hj
    exact h.2.2 (j, a_cv V v) List.mem_cons_self
  · rw [List.getElem?_set_ne (Ne.symm hji)] at hj
    refine h.2.2 (j, a_cv V w) (List.mem_cons_of_mem _ (List.mem_filter.mpr ⟨a_ll_mem.mpr ⟨w, hj, hw, rfl⟩, ?_⟩))
    by_cases h2 : j + 1 = i
    · have := hk j w hj h2
      simp [hji, a_cv_cat, this]
    · simp [hji, h2]
theorem a_L.st2 {V : a_V} {lsC : Array Slot} {nL i : Nat} {ls : List Value} {v : Value} (hk : ∀ j w, ls[j]? = some w → j + 1 = i → w.category = 1)
    (h : lv_has lsC nL ((i, a_cv V v) :: (a_ll V ls).filter (fun q => !(q.1 == i) && (!(q.1 == i + 1) && !(q.1 + 1 == i && q.2.category == 2))))) : a_L V lsC nL ((ls.set i v).set (i + 1) .null) := by
  refine ⟨h.1, h.2.1, fun j w hj hw => ?_⟩
  by_cases hj1 : j = i + 1
  · subst hj1
    have hl : i + 1 < ls.length := by have := (List.getElem?_eq_some_iff.mp hj).1; simpa using this
    rw [List.getElem?_set_self (by simpa using hl)] at hj
    cases hj
    exact absurd rfl hw
  · rw [List.getElem?_set_ne (Ne.symm hj1)] at hj
    by_cases hji : j = i
    · subst hji
      have hl : j < ls.length := by have := (List.getElem?_eq_some_iff.mp hj).1; simpa using this
      rw [List.getElem?_set_self hl] at hj
      cases hj
      exact h.2.2 (j, a_cv V v) List.mem_cons_self
    · rw [List.getElem?_set_ne (Ne.symm hji)] at hj
      refine h.2.2 (j, a_cv V w) (List.mem_cons_of_mem _ (List.mem_filter.mpr ⟨a_ll_mem.mpr ⟨w, hj, hw, rfl⟩, ?_⟩))
      by_cases h2 : j + 1 = i
      · have := hk j w hj h2
        simp [hji, hj1, a_cv_cat, this]
      · simp [hji, hj1, h2]
section AR
variable {I : a_I} {pc uc us : Nat} {ls st : List Value} {h : a_H} {Q : a_Q}
theorem r_iadd {x y : Int32} (hd : decode (i_cc I) pc = .ok (.iadd, 1)) (k : AW I (pc + 1) ls (.int (x + y) :: st) h uc us Q) : AW I pc ls (.int y :: .int x :: st) h uc us Q := by
  intro V p l e R s m args below meth c H locs Gl ws tys lsC hC hR hN hH hS hu hv hL
  exact lv_iadd hC.1 hC.2.1 hd (k V p l e R s m args below meth c H locs Gl ws tys lsC hC hR hN hH hS hu hv hL)
theorem r_isub {x y : Int32} (hd : decode (i_cc I) pc = .ok (.isub, 1)) (k : AW I (pc + 1) ls (.int (x - y) :: st) h uc us Q) : AW I pc ls (.int y :: .int x :: st) h uc us Q := by
  intro V p l e R s m args below meth c H locs Gl ws tys lsC hC hR hN hH hS hu hv hL
  exact lv_isub hC.1 hC.2.1 hd (k V p l e R s m args below meth c H locs Gl ws tys lsC hC hR hN hH hS hu hv hL)
theorem r_imul {x y : Int32} (hd : decode (i_cc I) pc = .ok (.imul, 1)) (k : AW I (pc + 1) ls (.int (x * y) :: st) h uc us Q) : AW I pc ls (.int y :: .int x :: st) h uc us Q := by
  intro V p l e R s m args below meth c H locs Gl ws tys lsC hC hR hN hH hS hu hv hL
  exact lv_imul hC.1 hC.2.1 hd (k V p l e R s m args below meth c H locs Gl ws tys lsC hC hR hN hH hS hu hv hL)
theorem r_iand {x y : Int32} (hd : decode (i_cc I) pc = .ok (.iand, 1)) (k : AW I (pc + 1) ls (.int (x &&& y) :: st) h uc us Q) : AW I pc ls (.int y :: .int x :: st) h uc us Q := by
  intro V p l e R s m args below meth c H locs Gl ws tys lsC hC hR hN hH hS hu hv hL
  exact lv_iand hC.1 hC.2.1 hd (k V p l e R s m args below meth c H locs Gl ws tys lsC hC hR hN hH hS hu hv hL)
theorem r_ishr {x y : Int32} (hd : decode (i_cc I) pc = .ok (.ishr, 1)) (k : AW I (pc + 1) ls (.int (x >>> (y &&& 31)) :: st) h uc us Q) : AW I pc ls (.int y :: .int x :: st) h uc us Q := by
  intro V p l e R s m args below meth c H locs Gl ws tys lsC hC hR hN hH hS hu hv hL
  exact lv_ishr hC.1 hC.2.1 hd (k V p l e R s m args below meth c H locs Gl ws tys lsC hC hR hN hH hS hu hv hL)
theorem r_idiv {x y : Int32} (hd : decode (i_cc I) pc = .ok (.idiv, 1)) (hne : ¬ y = 0) (k : AW I (pc + 1) ls (.int (x / y) :: st) h uc us Q) : AW I pc ls (.int y :: .int x :: st) h uc us Q := by
  intro V p l e R s m args below meth c H locs Gl ws tys lsC hC hR hN hH hS hu hv hL
  exact lv_idiv hC.1 hC.2.1 hd hne (k V p l e R s m args below meth c H locs Gl ws tys lsC hC hR hN hH hS hu hv hL)
theorem r_irem {x y : Int32} (hd : decode (i_cc I) pc = .ok (.irem, 1)) (hne : ¬ y = 0) (k : AW I (pc + 1) ls (.int (x % y) :: st) h uc us Q) : AW I pc ls (.int y :: .int x :: st) h uc us Q := by
  intro V p l e R s m args below meth c H locs Gl ws tys lsC hC hR hN hH hS hu hv hL
  have k2 := k V p l e R s m args below meth c H locs Gl ws tys lsC hC hR hN hH hS hu hv hL
  rw [← irem_eq_mod] at k2
  exact lv_irem hC.1 hC.2.1 hd hne k2
theorem r_ineg {x : Int32} (hd : decode (i_cc I) pc = .ok (.ineg, 1)) (k : AW I (pc + 1) ls (.int (-x) :: st) h uc us Q) : AW I pc ls (.int x :: st) h uc us Q := by
  intro V p l e R s m args below meth c H locs Gl ws tys lsC hC hR hN hH hS hu hv hL
  exact lv_ineg hC.1 hC.2.1 hd (k V p l e R s m args below meth c H locs Gl ws tys lsC hC hR hN hH hS hu hv hL)
theorem r_ladd {x y : Int64} (hd : decode (i_cc I) pc = .ok (.ladd, 1)) (k : AW I (pc + 1) ls (.long (x + y) :: st) h uc us Q) : AW I pc ls (.long y :: .long x :: st) h uc us Q := by
  intro V p l e R s m args below meth c H locs Gl ws tys lsC hC hR hN hH hS hu hv hL
  exact lv_ladd hC.1 hC.2.1 hd (k V p l e R s m args below meth c H locs Gl ws tys lsC hC hR hN hH hS hu hv hL)
theorem r_lmul {x y : Int64} (hd : decode (i_cc I) pc = .ok (.lmul, 1)) (k : AW I (pc + 1) ls (.long (x * y) :: st) h uc us Q) : AW I pc ls (.long y :: .long x :: st) h uc us Q := by
  intro V p l e R s m args below meth c H locs Gl ws tys lsC hC hR hN hH hS hu hv hL
  exact lv_lmul hC.1 hC.2.1 hd (k V p l e R s m args below meth c H locs Gl ws tys lsC hC hR hN hH hS hu hv hL)
theorem r_land {x y : Int64} (hd : decode (i_cc I) pc = .ok (.land, 1)) (k : AW I (pc + 1) ls (.long (x &&& y) :: st) h uc us Q) : AW I pc ls (.long y :: .long x :: st) h uc us Q := by
  intro V p l e R s m args below meth c H locs Gl ws tys lsC hC hR hN hH hS hu hv hL
  exact lv_land hC.1 hC.2.1 hd (k V p l e R s m args below meth c H locs Gl ws tys lsC hC hR hN hH hS hu hv hL)
theorem r_lor {x y : Int64} (hd : decode (i_cc I) pc = .ok (.lor, 1)) (k : AW I (pc + 1) ls (.long (x ||| y) :: st) h uc us Q) : AW I pc ls (.long y :: .long x :: st) h uc us Q := by
  intro V p l e R s m args below meth c H locs Gl ws tys lsC hC hR hN hH hS hu hv hL
  exact lv_lor hC.1 hC.2.1 hd (k V p l e R s m args below meth c H locs Gl ws tys lsC hC hR hN hH hS hu hv hL)
theorem r_ldiv {x y : Int64} (hd : decode (i_cc I) pc = .ok (.ldiv, 1)) (hne : ¬ y = 0) (k : AW I (pc + 1) ls (.long (x / y) :: st) h uc us Q) : AW I pc ls (.long y :: .long x :: st) h uc us Q := by
  intro V p l e R s m args below meth c H locs Gl ws tys lsC hC hR hN hH hS hu hv hL
  exact lv_ldiv hC.1 hC.2.1 hd hne (k V p l e R s m args below meth c H locs Gl ws tys lsC hC hR hN hH hS hu hv hL)
theorem r_lshl {x : Int64} {y : Int32} (hd : decode (i_cc I) pc = .ok (.lshl, 1)) (k : AW I (pc + 1) ls (.long (x <<< (y.toInt64 &&& 63)) :: st) h uc us Q) : AW I pc ls (.int y :: .long x :: st) h uc us Q := by
  intro V p l e R s m args below meth c H locs Gl ws tys lsC hC hR hN hH hS hu hv hL
  exact lv_lshl hC.1 hC.2.1 hd rfl (k V p l e R s m args below meth c H locs Gl ws tys lsC hC hR hN hH hS hu hv hL)
theorem r_lshr {x : Int64} {y : Int32} (hd : decode (i_cc I) pc = .ok (.lshr, 1)) (k : AW I (pc + 1) ls (.long (x >>> (y.toInt64 &&& 63)) :: st) h uc us Q) : AW I pc ls (.int y :: .long x :: st) h uc us Q := by
  intro V p l e R s m args below meth c H locs Gl ws tys lsC hC hR hN hH hS hu hv hL
  exact lv_lshr hC.1 hC.2.1 hd rfl (k V p l e R s m args below meth c H locs Gl ws tys lsC hC hR hN hH hS hu hv hL)
theorem r_i2l {x : Int32} (hd : decode (i_cc I) pc = .ok (.i2l, 1)) (k : AW I (pc + 1) ls (.long x.toInt64 :: st) h uc us Q) : AW I pc ls (.int x :: st) h uc us Q := by
  intro V p l e R s m args below meth c H locs Gl ws tys lsC hC hR hN hH hS hu hv hL
  exact lv_i2l hC.1 hC.2.1 hd rfl (k V p l e R s m args below meth c H locs Gl ws tys lsC hC hR hN hH hS hu hv hL)
theorem r_l2i {x : Int64} (hd : decode (i_cc I) pc = .ok (.l2i, 1)) (k : AW I (pc + 1) ls (.int x.toInt32 :: st) h uc us Q) : AW I pc ls (.long x :: st) h uc us Q := by
  intro V p l e R s m args below meth c H locs Gl ws tys lsC hC hR hN hH hS hu hv hL
  exact lv_l2i hC.1 hC.2.1 hd rfl (k V p l e R s m args below meth c H locs Gl ws tys lsC hC hR hN hH hS hu hv hL)
theorem r_i2b {x : Int32} (hd : decode (i_cc I) pc = .ok (.i2b, 1)) (k : AW I (pc + 1) ls (.int x.toInt8.toInt32 :: st) h uc us Q) : AW I pc ls (.int x :: st) h uc us Q := by
  intro V p l e R s m args below meth c H locs Gl ws tys lsC hC hR hN hH hS hu hv hL
  exact lv_i2b hC.1 hC.2.1 hd rfl (k V p l e R s m args below meth c H locs Gl ws tys lsC hC hR hN hH hS hu hv hL)
theorem r_i2f {x : Int32} (hd : decode (i_cc I) pc = .ok (.i2f, 1)) (k : AW I (pc + 1) ls (.float (FP.i2f x) :: st) h uc us Q) : AW I pc ls (.int x :: st) h uc us Q := by
  intro V p l e R s m args below meth c H locs Gl ws tys lsC hC hR hN hH hS hu hv hL
  exact lv_i2f hC.1 hC.2.1 hd (k V p l e R s m args below meth c H locs Gl ws tys lsC hC hR hN hH hS hu hv hL)
theorem r_fdiv {x y : UInt32} (hd : decode (i_cc I) pc = .ok (.fdiv, 1)) (hne : vf_n32 (FP.fdiv x y)) (k : AW I (pc + 1) ls (.float (FP.fdiv x y) :: st) h uc us Q) : AW I pc ls (.float y :: .float x :: st) h uc us Q := by
  intro V p l e R s m args below meth c H locs Gl ws tys lsC hC hR hN hH hS hu hv hL
  exact lv_fdiv hC.1 hC.2.1 hd hne (k V p l e R s m args below meth c H locs Gl ws tys lsC hC hR hN hH hS hu hv hL)
theorem r_f2d {x : UInt32} (hd : decode (i_cc I) pc = .ok (.f2d, 1)) (hne : vf_n64 (FP.f2d x)) (k : AW I (pc + 1) ls (.double (FP.f2d x) :: st) h uc us Q) : AW I pc ls (.float x :: st) h uc us Q := by
  intro V p l e R s m args below meth c H locs Gl ws tys lsC hC hR hN hH hS hu hv hL
  exact lv_f2d hC.1 hC.2.1 hd hne (k V p l e R s m args below meth c H locs Gl ws tys lsC hC hR hN hH hS hu hv hL)
theorem r_dcmp {x y : UInt64} {op : CmpOp} (hd : decode (i_cc I) pc = .ok (.dcmp op, 1)) (k : AW I (pc + 1) ls (.int (Op.cmpValue (FP.dcmp x y) op) :: st) h uc us Q) : AW I pc ls (.double y :: .double x :: st) h uc us Q := by
  intro V p l e R s m args below meth c H locs Gl ws tys lsC hC hR hN hH hS hu hv hL
  exact lv_dcmp hC.1 hC.2.1 hd (k V p l e R s m args below meth c H locs Gl ws tys lsC hC hR hN hH hS hu hv hL)
theorem r_fcmp {x y : UInt32} {op : CmpOp} (hd : decode (i_cc I) pc = .ok (.fcmp op, 1)) (k : AW I (pc + 1) ls (.int (Op.cmpValue (FP.fcmp x y) op) :: st) h uc us Q) : AW I pc ls (.float y :: .float x :: st) h uc us Q := by
  intro V p l e R s m args below meth c H locs Gl ws tys lsC hC hR hN hH hS hu hv hL
  exact lv_fcmp hC.1 hC.2.1 hd (k V p l e R s m args below meth c H locs Gl ws tys lsC hC hR hN hH hS hu hv hL)
theorem r_fconst0  (hd : decode (i_cc I) pc = .ok (.fconst 0, 1)) (k : AW I (pc + 1) ls (.float FP.fconst0 :: st) h uc us Q) : AW I pc ls (st) h uc us Q := by
  intro V p l e R s m args below meth c H locs Gl ws tys lsC hC hR hN hH hS hu hv hL
  exact lv_fconst0 hC.1 hC.2.1 hd (k V p l e R s m args below meth c H locs Gl ws tys lsC hC hR hN hH hS hu hv hL)
theorem r_iconst_m1 (hd : decode (i_cc I) pc = .ok (.iconst (-1), 1)) (k : AW I (pc + 1) ls (.int (-1) :: st) h uc us Q) : AW I pc ls st h uc us Q := by
  intro V p l e R s m args below meth c H locs Gl ws tys lsC hC hR hN hH hS hu hv hL
  exact lv_iconst hC.1 hC.2.1 hd (by decide) (k V p l e R s m args below meth c H locs Gl ws tys lsC hC hR hN hH hS hu hv hL)
theorem r_iconst_0 (hd : decode (i_cc I) pc = .ok (.iconst 0, 1)) (k : AW I (pc + 1) ls (.int 0 :: st) h uc us Q) : AW I pc ls st h uc us Q := by
  intro V p l e R s m args below meth c H locs Gl ws tys lsC hC hR hN hH hS hu hv hL
  exact lv_iconst hC.1 hC.2.1 hd (by decide) (k V p l e R s m args below meth c H locs Gl ws tys lsC hC hR hN hH hS hu hv hL)
theorem r_iconst_1 (hd : decode (i_cc I) pc = .ok (.iconst 1, 1)) (k : AW I (pc + 1) ls (.int 1 :: st) h uc us Q) : AW I pc ls st h uc us Q := by
  intro V p l e R s m args below meth c H locs Gl ws tys lsC hC hR hN hH hS hu hv hL
  exact lv_iconst hC.1 hC.2.1 hd (by decide) (k V p l e R s m args below meth c H locs Gl ws tys lsC hC hR hN hH hS hu hv hL)
theorem r_iconst_2 (hd : decode (i_cc I) pc = .ok (.iconst 2, 1)) (k : AW I (pc + 1) ls (.int 2 :: st) h uc us Q) : AW I pc ls st h uc us Q := by
  intro V p l e R s m args below meth c H locs Gl ws tys lsC hC hR hN hH hS hu hv hL
  exact lv_iconst hC.1 hC.2.1 hd (by decide) (k V p l e R s m args below meth c H locs Gl ws tys lsC hC hR hN hH hS hu hv hL)
theorem r_iconst_3 (hd : decode (i_cc I) pc = .ok (.iconst 3, 1)) (k : AW I (pc + 1) ls (.int 3 :: st) h uc us Q) : AW I pc ls st h uc us Q := by
  intro V p l e R s m args below meth c H locs Gl ws tys lsC hC hR hN hH hS hu hv hL
  exact lv_iconst hC.1 hC.2.1 hd (by decide) (k V p l e R s m args below meth c H locs Gl ws tys lsC hC hR hN hH hS hu hv hL)
theorem r_iconst_4 (hd : decode (i_cc I) pc = .ok (.iconst 4, 1)) (k : AW I (pc + 1) ls (.int 4 :: st) h uc us Q) : AW I pc ls st h uc us Q := by
  intro V p l e R s m args below meth c H locs Gl ws tys lsC hC hR hN hH hS hu hv hL
  exact lv_iconst hC.1 hC.2.1 hd (by decide) (k V p l e R s m args below meth c H locs Gl ws tys lsC hC hR hN hH hS hu hv hL)
theorem r_iconst_5 (hd : decode (i_cc I) pc = .ok (.iconst 5, 1)) (k : AW I (pc + 1) ls (.int 5 :: st) h uc us Q) : AW I pc ls st h uc us Q := by
  intro V p l e R s m args below meth c H locs Gl ws tys lsC hC hR hN hH hS hu hv hL
  exact lv_iconst hC.1 hC.2.1 hd (by decide) (k V p l e R s m args below meth c H locs Gl ws tys lsC hC hR hN hH hS hu hv hL)
theorem r_bipush {n : Int} (v : Int32) (hd : decode (i_cc I) pc = .ok (.bipush n, 2)) (hv : (Int8.ofInt n).toInt32 = v) (k : AW I (pc + 2) ls (.int v :: st) h uc us Q) : AW I pc ls st h uc us Q := by
  intro V p l e R s m args below meth c H locs Gl ws tys lsC hC hR hN hH hS hu hv9 hL
  exact lv_bipush hC.1 hC.2.1 hd hv (k V p l e R s m args below meth c H locs Gl ws tys lsC hC hR hN hH hS hu hv9 hL)
theorem r_sipush {n : Int} (v : Int32) (hd : decode (i_cc I) pc = .ok (.sipush n, 3)) (hv : (Int16.ofInt n).toInt32 = v) (k : AW I (pc + 3) ls (.int v :: st) h uc us Q) : AW I pc ls st h uc us Q := by
  intro V p l e R s m args below meth c H locs Gl ws tys lsC hC hR hN hH hS hu hv9 hL
  exact lv_sipush hC.1 hC.2.1 hd hv (k V p l e R s m args below meth c H locs Gl ws tys lsC hC hR hN hH hS hu hv9 hL)
theorem r_lconst_0 (hd : decode (i_cc I) pc = .ok (.lconst 0, 1)) (k : AW I (pc + 1) ls (.long 0 :: st) h uc us Q) : AW I pc ls st h uc us Q := by
  intro V p l e R s m args below meth c H locs Gl ws tys lsC hC hR hN hH hS hu hv hL
  exact lv_lconst hC.1 hC.2.1 hd (by decide) (k V p l e R s m args below meth c H locs Gl ws tys lsC hC hR hN hH hS hu hv hL)
theorem r_lconst_1 (hd : decode (i_cc I) pc = .ok (.lconst 1, 1)) (k : AW I (pc + 1) ls (.long 1 :: st) h uc us Q) : AW I pc ls st h uc us Q := by
  intro V p l e R s m args below meth c H locs Gl ws tys lsC hC hR hN hH hS hu hv hL
  exact lv_lconst hC.1 hC.2.1 hd (by decide) (k V p l e R s m args below meth c H locs Gl ws tys lsC hC hR hN hH hS hu hv hL)
theorem r_ldc {ix : Nat} (v : Int32) (hd : decode (i_cc I) pc = .ok (.ldc ix, 2)) (hw : Cond.constant (i_own I) ix v ∈ a_GT) (k : AW I (pc + 2) ls (.int v :: st) h uc us Q) : AW I pc ls st h uc us Q := by
  intro V p l e R s m args below meth c H locs Gl ws tys lsC hC hR hN hH hS hu hv hL
  exact lv_ldc hC.1 hC.2.1 hC.2.2.2.1 (hC.2.2.2.2.1 _ hw) hd (k V p l e R s m args below meth c H locs Gl ws tys lsC hC hR hN hH hS hu hv hL)
theorem r_ldc2 {ix : Nat} (v : Int64) (hd : decode (i_cc I) pc = .ok (.ldc2_w ix, 3)) (hw : Cond.constantLong (i_own I) ix v ∈ a_GT) (k : AW I (pc + 3) ls (.long v :: st) h uc us Q) : AW I pc ls st h uc us Q := by
  intro V p l e R s m args below meth c H locs Gl ws tys lsC hC hR hN hH hS hu hv hL
  exact lv_ldc2 hC.1 hC.2.1 hC.2.2.2.1 (hC.2.2.2.2.1 _ hw) hd (k V p l e R s m args below meth c H locs Gl ws tys lsC hC hR hN hH hS hu hv hL)
theorem r_iload {i : Nat} {x : Int32} (hd : decode (i_cc I) pc = .ok (.iload i, 2)) (hl : ls[i]? = some (.int x)) (k : AW I (pc + 2) ls (.int x :: st) h uc us Q) : AW I pc ls st h uc us Q := by
  intro V p l e R s m args below meth c H locs Gl ws tys lsC hC hR hN hH hS hu hv hL
  exact lv_iload hC.1 hC.2.1 hd (hL.2.2 _ _ hl (fun z => by cases z)) (k V p l e R s m args below meth c H locs Gl ws tys lsC hC hR hN hH hS hu hv hL)
theorem r_iload_n {i : Fin 4} {x : Int32} (hd : decode (i_cc I) pc = .ok (.iload_n i, 1)) (hl : ls[(i : Nat)]? = some (.int x)) (k : AW I (pc + 1) ls (.int x :: st) h uc us Q) : AW I pc ls st h uc us Q := by
  intro V p l e R s m args below meth c H locs Gl ws tys lsC hC hR hN hH hS hu hv hL
  exact lv_iload_n hC.1 hC.2.1 hd rfl (hL.2.2 _ _ hl (fun z => by cases z)) (k V p l e R s m args below meth c H locs Gl ws tys lsC hC hR hN hH hS hu hv hL)
theorem r_lload {i : Nat} {x : Int64} (hd : decode (i_cc I) pc = .ok (.lload i, 2)) (hl : ls[i]? = some (.long x)) (k : AW I (pc + 2) ls (.long x :: st) h uc us Q) : AW I pc ls st h uc us Q := by
  intro V p l e R s m args below meth c H locs Gl ws tys lsC hC hR hN hH hS hu hv hL
  exact lv_lload hC.1 hC.2.1 hd (hL.2.2 _ _ hl (fun z => by cases z)) (k V p l e R s m args below meth c H locs Gl ws tys lsC hC hR hN hH hS hu hv hL)
theorem r_lload_n {i : Fin 4} {x : Int64} (hd : decode (i_cc I) pc = .ok (.lload_n i, 1)) (hl : ls[(i : Nat)]? = some (.long x)) (k : AW I (pc + 1) ls (.long x :: st) h uc us Q) : AW I pc ls st h uc us Q := by
  intro V p l e R s m args below meth c H locs Gl ws tys lsC hC hR hN hH hS hu hv hL
  exact lv_lload_n hC.1 hC.2.1 hd rfl (hL.2.2 _ _ hl (fun z => by cases z)) (k V p l e R s m args below meth c H locs Gl ws tys lsC hC hR hN hH hS hu hv hL)
theorem r_fload {i : Nat} {x : UInt32} (hd : decode (i_cc I) pc = .ok (.fload i, 2)) (hl : ls[i]? = some (.float x)) (k : AW I (pc + 2) ls (.float x :: st) h uc us Q) : AW I pc ls st h uc us Q := by
  intro V p l e R s m args below meth c H locs Gl ws tys lsC hC hR hN hH hS hu hv hL
  exact lv_fload hC.1 hC.2.1 hd (hL.2.2 _ _ hl (fun z => by cases z)) (k V p l e R s m args below meth c H locs Gl ws tys lsC hC hR hN hH hS hu hv hL)
theorem r_fload_n {i : Fin 4} {x : UInt32} (hd : decode (i_cc I) pc = .ok (.fload_n i, 1)) (hl : ls[(i : Nat)]? = some (.float x)) (k : AW I (pc + 1) ls (.float x :: st) h uc us Q) : AW I pc ls st h uc us Q := by
  intro V p l e R s m args below meth c H locs Gl ws tys lsC hC hR hN hH hS hu hv hL
  exact lv_fload_n hC.1 hC.2.1 hd rfl (hL.2.2 _ _ hl (fun z => by cases z)) (k V p l e R s m args below meth c H locs Gl ws tys lsC hC hR hN hH hS hu hv hL)
theorem r_aload {i : Nat} {x : Nat} (hd : decode (i_cc I) pc = .ok (.aload i, 2)) (hl : ls[i]? = some (.ref x)) (k : AW I (pc + 2) ls (.ref x :: st) h uc us Q) : AW I pc ls st h uc us Q := by
  intro V p l e R s m args below meth c H locs Gl ws tys lsC hC hR hN hH hS hu hv hL
  exact lv_aload hC.1 hC.2.1 hd (hL.2.2 _ _ hl (fun z => by cases z)) (k V p l e R s m args below meth c H locs Gl ws tys lsC hC hR hN hH hS hu hv hL)
theorem r_aload_n {i : Fin 4} {x : Nat} (hd : decode (i_cc I) pc = .ok (.aload_n i, 1)) (hl : ls[(i : Nat)]? = some (.ref x)) (k : AW I (pc + 1) ls (.ref x :: st) h uc us Q) : AW I pc ls st h uc us Q := by
  intro V p l e R s m args below meth c H locs Gl ws tys lsC hC hR hN hH hS hu hv hL
  exact lv_aload_n hC.1 hC.2.1 hd rfl (hL.2.2 _ _ hl (fun z => by cases z)) (k V p l e R s m args below meth c H locs Gl ws tys lsC hC hR hN hH hS hu hv hL)
theorem r_istore {i : Nat} {x : Int32} (hd : decode (i_cc I) pc = .ok (.istore i, 2)) (hn : i < i_nL I) (hk : ∀ j w, ls[j]? = some w → j + 1 = i → w.category = 1) (k : AW I (pc + 2) (ls.set i (.int x)) st h uc us Q) : AW I pc ls (.int x :: st) h uc us Q := by
  intro V p l e R s m args below meth c H locs Gl ws tys lsC hC hR hN hH hS hu hv hL
  exact lv_istore hC.1 hC.2.1 hd hL.has hn rfl (fun ls2 h2 => k V p l e R s m args below meth c H locs Gl ws tys ls2 hC hR hN hH hS hu hv (a_L.st1 hk h2))
theorem r_istore_n {i : Fin 4} {x : Int32} (hd : decode (i_cc I) pc = .ok (.istore_n i, 1)) (hn : (i : Nat) < i_nL I) (hk : ∀ j w, ls[j]? = some w → j + 1 = (i : Nat) → w.category = 1) (k : AW I (pc + 1) (ls.set (i : Nat) (.int x)) st h uc us Q) : AW I pc ls (.int x :: st) h uc us Q := by
  intro V p l e R s m args below meth c H locs Gl ws tys lsC hC hR hN hH hS hu hv hL
  exact lv_istore_n hC.1 hC.2.1 hd rfl hL.has hn rfl (fun ls2 h2 => k V p l e R s m args below meth c H locs Gl ws tys ls2 hC hR hN hH hS hu hv (a_L.st1 hk h2))
theorem r_fstore {i : Nat} {x : UInt32} (hd : decode (i_cc I) pc = .ok (.fstore i, 2)) (hn : i < i_nL I) (hk : ∀ j w, ls[j]? = some w → j + 1 = i → w.category = 1) (k : AW I (pc + 2) (ls.set i (.float x)) st h uc us Q) : AW I pc ls (.float x :: st) h uc us Q := by
  intro V p l e R s m args below meth c H locs Gl ws tys lsC hC hR hN hH hS hu hv hL
  exact lv_fstore hC.1 hC.2.1 hd hL.has hn rfl (fun ls2 h2 => k V p l e R s m args below meth c H locs Gl ws tys ls2 hC hR hN hH hS hu hv (a_L.st1 hk h2))
theorem r_fstore_n {i : Fin 4} {x : UInt32} (hd : decode (i_cc I) pc = .ok (.fstore_n i, 1)) (hn : (i : Nat) < i_nL I) (hk : ∀ j w, ls[j]? = some w → j + 1 = (i : Nat) → w.category = 1) (k : AW I (pc + 1) (ls.set (i : Nat) (.float x)) st h uc us Q) : AW I pc ls (.float x :: st) h uc us Q := by
  intro V p l e R s m args below meth c H locs Gl ws tys lsC hC hR hN hH hS hu hv hL
  exact lv_fstore_n hC.1 hC.2.1 hd rfl hL.has hn rfl (fun ls2 h2 => k V p l e R s m args below meth c H locs Gl ws tys ls2 hC hR hN hH hS hu hv (a_L.st1 hk h2))
theorem r_astore {i : Nat} {x : Nat} (hd : decode (i_cc I) pc = .ok (.astore i, 2)) (hn : i < i_nL I) (hk : ∀ j w, ls[j]? = some w → j + 1 = i → w.category = 1) (k : AW I (pc + 2) (ls.set i (.ref x)) st h uc us Q) : AW I pc ls (.ref x :: st) h uc us Q := by
  intro V p l e R s m args below meth c H locs Gl ws tys lsC hC hR hN hH hS hu hv hL
  exact lv_astore hC.1 hC.2.1 hd hL.has hn rfl (fun ls2 h2 => k V p l e R s m args below meth c H locs Gl ws tys ls2 hC hR hN hH hS hu hv (a_L.st1 hk h2))
theorem r_astore_n {i : Fin 4} {x : Nat} (hd : decode (i_cc I) pc = .ok (.astore_n i, 1)) (hn : (i : Nat) < i_nL I) (hk : ∀ j w, ls[j]? = some w → j + 1 = (i : Nat) → w.category = 1) (k : AW I (pc + 1) (ls.set (i : Nat) (.ref x)) st h uc us Q) : AW I pc ls (.ref x :: st) h uc us Q := by
  intro V p l e R s m args below meth c H locs Gl ws tys lsC hC hR hN hH hS hu hv hL
  exact lv_astore_n hC.1 hC.2.1 hd rfl hL.has hn rfl (fun ls2 h2 => k V p l e R s m args below meth c H locs Gl ws tys ls2 hC hR hN hH hS hu hv (a_L.st1 hk h2))
theorem r_lstore {i : Nat} {x : Int64} (hd : decode (i_cc I) pc = .ok (.lstore i, 2)) (hn : i + 1 < i_nL I) (hk : ∀ j w, ls[j]? = some w → j + 1 = i → w.category = 1) (k : AW I (pc + 2) ((ls.set i (.long x)).set (i + 1) .null) st h uc us Q) : AW I pc ls (.long x :: st) h uc us Q := by
  intro V p l e R s m args below meth c H locs Gl ws tys lsC hC hR hN hH hS hu hv hL
  exact lv_lstore hC.1 hC.2.1 hd hL.has hn rfl (fun ls2 h2 => k V p l e R s m args below meth c H locs Gl ws tys ls2 hC hR hN hH hS hu hv (a_L.st2 hk h2))
theorem r_lstore_n {i : Fin 4} {x : Int64} (hd : decode (i_cc I) pc = .ok (.lstore_n i, 1)) (hn : (i : Nat) + 1 < i_nL I) (hk : ∀ j w, ls[j]? = some w → j + 1 = (i : Nat) → w.category = 1) (k : AW I (pc + 1) ((ls.set (i : Nat) (.long x)).set ((i : Nat) + 1) .null) st h uc us Q) : AW I pc ls (.long x :: st) h uc us Q := by
  intro V p l e R s m args below meth c H locs Gl ws tys lsC hC hR hN hH hS hu hv hL
  exact lv_lstore_n hC.1 hC.2.1 hd rfl hL.has hn rfl (fun ls2 h2 => k V p l e R s m args below meth c H locs Gl ws tys ls2 hC hR hN hH hS hu hv (a_L.st2 hk h2))
theorem r_iinc {i : Nat} {n : Int} {x : Int32} (v : Int32) (hd : decode (i_cc I) pc = .ok (.iinc i n, 3)) (hl : ls[i]? = some (.int x)) (hx : x + Int32.ofInt n = v) (hn : i < i_nL I) (hk : ∀ j w, ls[j]? = some w → j + 1 = i → w.category = 1) (k : AW I (pc + 3) (ls.set i (.int v)) st h uc us Q) : AW I pc ls st h uc us Q := by
  intro V p l e R s m args below meth c H locs Gl ws tys lsC hC hR hN hH hS hu hv hL
  have hm : (i, Value.int x) ∈ a_ll V ls := a_ll_mem.mpr ⟨_, hl, (fun z => by cases z), rfl⟩
  obtain ⟨k0, hk0⟩ := List.getElem?_of_mem hm
  exact lv_iinc hC.1 hC.2.1 hd hL.has (k := k0) hk0 hx hn rfl (fun ls2 h2 => k V p l e R s m args below meth c H locs Gl ws tys ls2 hC hR hN hH hS hu hv (a_L.st1 hk h2))
theorem r_dup {va : Value} (hd : decode (i_cc I) pc = .ok (.dup, 1)) (hva : va.category = 1) (k : AW I (pc + 1) ls (va :: va :: st) h uc us Q) : AW I pc ls (va :: st) h uc us Q := by
  intro V p l e R s m args below meth c H locs Gl ws tys lsC hC hR hN hH hS hu hv hL
  exact lv_dup hC.1 hC.2.1 hd (by rw [a_cv_cat]; exact hva) (k V p l e R s m args below meth c H locs Gl ws tys lsC hC hR hN hH hS hu hv hL)
theorem r_dup2 {va vb : Value} (hd : decode (i_cc I) pc = .ok (.dup2, 1)) (hva : va.category = 1) (hvb : vb.category = 1) (k : AW I (pc + 1) ls (va :: vb :: va :: vb :: st) h uc us Q) : AW I pc ls (va :: vb :: st) h uc us Q := by
  intro V p l e R s m args below meth c H locs Gl ws tys lsC hC hR hN hH hS hu hv hL
  exact lv_dup2_11 hC.1 hC.2.1 hd (by rw [a_cv_cat]; exact hva) (by rw [a_cv_cat]; exact hvb) (k V p l e R s m args below meth c H locs Gl ws tys lsC hC hR hN hH hS hu hv hL)
theorem r_pop {va : Value} (hd : decode (i_cc I) pc = .ok (.pop, 1)) (hva : va.category = 1) (k : AW I (pc + 1) ls st h uc us Q) : AW I pc ls (va :: st) h uc us Q := by
  intro V p l e R s m args below meth c H locs Gl ws tys lsC hC hR hN hH hS hu hv hL
  exact lv_pop hC.1 hC.2.1 hd (by rw [a_cv_cat]; exact hva) (k V p l e R s m args below meth c H locs Gl ws tys lsC hC hR hN hH hS hu hv hL)
theorem r_lcmp {x y : Int64} (hd : decode (i_cc I) pc = .ok (.lcmp, 1)) (k : AW I (pc + 1) ls (.int (lg_cmp x y) :: st) h uc us Q) : AW I pc ls (.long y :: .long x :: st) h uc us Q := by
  intro V p l e R s m args below meth c H locs Gl ws tys lsC hC hR hN hH hS hu hv hL
  exact W.lcmp hC.1 hC.2.1 hd (k V p l e R s m args below meth c H locs Gl ws tys lsC hC hR hN hH hS hu hv hL)
theorem r_if_eq {x : Int32} {off : Int} (tgt : Nat) (hd : decode (i_cc I) pc = .ok (.ifCond .eq off, 3)) (ht : (pc : Int) + off = (tgt : Int)) (kt : x = 0 → AW I tgt ls st h uc us Q) (kf : ¬ x = 0 → AW I (pc + 3) ls st h uc us Q) : AW I pc ls (.int x :: st) h uc us Q := by
  intro V p l e R s m args below meth c H locs Gl ws tys lsC hC hR hN hH hS hu hv hL
  exact lv_if_eq hC.1 hC.2.1 hd ht (fun z => kt z V p l e R s m args below meth c H locs Gl ws tys lsC hC hR hN hH hS hu hv hL) (fun z => kf z V p l e R s m args below meth c H locs Gl ws tys lsC hC hR hN hH hS hu hv hL)
theorem r_icmp_eq {x y : Int32} {off : Int} (tgt : Nat) (hd : decode (i_cc I) pc = .ok (.if_icmp .eq off, 3)) (ht : (pc : Int) + off = (tgt : Int)) (kt : x = y → AW I tgt ls st h uc us Q) (kf : ¬ x = y → AW I (pc + 3) ls st h uc us Q) : AW I pc ls (.int y :: .int x :: st) h uc us Q := by
  intro V p l e R s m args below meth c H locs Gl ws tys lsC hC hR hN hH hS hu hv hL
  exact lv_icmp_eq hC.1 hC.2.1 hd ht (fun z => kt z V p l e R s m args below meth c H locs Gl ws tys lsC hC hR hN hH hS hu hv hL) (fun z => kf z V p l e R s m args below meth c H locs Gl ws tys lsC hC hR hN hH hS hu hv hL)
theorem r_if_ne {x : Int32} {off : Int} (tgt : Nat) (hd : decode (i_cc I) pc = .ok (.ifCond .ne off, 3)) (ht : (pc : Int) + off = (tgt : Int)) (kt : ¬ x = 0 → AW I tgt ls st h uc us Q) (kf : x = 0 → AW I (pc + 3) ls st h uc us Q) : AW I pc ls (.int x :: st) h uc us Q := by
  intro V p l e R s m args below meth c H locs Gl ws tys lsC hC hR hN hH hS hu hv hL
  exact lv_if_ne hC.1 hC.2.1 hd ht (fun z => kt z V p l e R s m args below meth c H locs Gl ws tys lsC hC hR hN hH hS hu hv hL) (fun z => kf z V p l e R s m args below meth c H locs Gl ws tys lsC hC hR hN hH hS hu hv hL)
theorem r_icmp_ne {x y : Int32} {off : Int} (tgt : Nat) (hd : decode (i_cc I) pc = .ok (.if_icmp .ne off, 3)) (ht : (pc : Int) + off = (tgt : Int)) (kt : ¬ x = y → AW I tgt ls st h uc us Q) (kf : x = y → AW I (pc + 3) ls st h uc us Q) : AW I pc ls (.int y :: .int x :: st) h uc us Q := by
  intro V p l e R s m args below meth c H locs Gl ws tys lsC hC hR hN hH hS hu hv hL
  exact lv_icmp_ne hC.1 hC.2.1 hd ht (fun z => kt z V p l e R s m args below meth c H locs Gl ws tys lsC hC hR hN hH hS hu hv hL) (fun z => kf z V p l e R s m args below meth c H locs Gl ws tys lsC hC hR hN hH hS hu hv hL)
theorem r_if_lt {x : Int32} {off : Int} (tgt : Nat) (hd : decode (i_cc I) pc = .ok (.ifCond .lt off, 3)) (ht : (pc : Int) + off = (tgt : Int)) (kt : x < 0 → AW I tgt ls st h uc us Q) (kf : ¬ x < 0 → AW I (pc + 3) ls st h uc us Q) : AW I pc ls (.int x :: st) h uc us Q := by
  intro V p l e R s m args below meth c H locs Gl ws tys lsC hC hR hN hH hS hu hv hL
  exact lv_if_lt hC.1 hC.2.1 hd ht (fun z => kt z V p l e R s m args below meth c H locs Gl ws tys lsC hC hR hN hH hS hu hv hL) (fun z => kf z V p l e R s m args below meth c H locs Gl ws tys lsC hC hR hN hH hS hu hv hL)
theorem r_icmp_lt {x y : Int32} {off : Int} (tgt : Nat) (hd : decode (i_cc I) pc = .ok (.if_icmp .lt off, 3)) (ht : (pc : Int) + off = (tgt : Int)) (kt : x < y → AW I tgt ls st h uc us Q) (kf : ¬ x < y → AW I (pc + 3) ls st h uc us Q) : AW I pc ls (.int y :: .int x :: st) h uc us Q := by
  intro V p l e R s m args below meth c H locs Gl ws tys lsC hC hR hN hH hS hu hv hL
  exact lv_icmp_lt hC.1 hC.2.1 hd ht (fun z => kt z V p l e R s m args below meth c H locs Gl ws tys lsC hC hR hN hH hS hu hv hL) (fun z => kf z V p l e R s m args below meth c H locs Gl ws tys lsC hC hR hN hH hS hu hv hL)
theorem r_if_ge {x : Int32} {off : Int} (tgt : Nat) (hd : decode (i_cc I) pc = .ok (.ifCond .ge off, 3)) (ht : (pc : Int) + off = (tgt : Int)) (kt : 0 ≤ x → AW I tgt ls st h uc us Q) (kf : ¬ 0 ≤ x → AW I (pc + 3) ls st h uc us Q) : AW I pc ls (.int x :: st) h uc us Q := by
  intro V p l e R s m args below meth c H locs Gl ws tys lsC hC hR hN hH hS hu hv hL
  exact lv_if_ge hC.1 hC.2.1 hd ht (fun z => kt z V p l e R s m args below meth c H locs Gl ws tys lsC hC hR hN hH hS hu hv hL) (fun z => kf z V p l e R s m args below meth c H locs Gl ws tys lsC hC hR hN hH hS hu hv hL)
theorem r_icmp_ge {x y : Int32} {off : Int} (tgt : Nat) (hd : decode (i_cc I) pc = .ok (.if_icmp .ge off, 3)) (ht : (pc : Int) + off = (tgt : Int)) (kt : y ≤ x → AW I tgt ls st h uc us Q) (kf : ¬ y ≤ x → AW I (pc + 3) ls st h uc us Q) : AW I pc ls (.int y :: .int x :: st) h uc us Q := by
  intro V p l e R s m args below meth c H locs Gl ws tys lsC hC hR hN hH hS hu hv hL
  exact lv_icmp_ge hC.1 hC.2.1 hd ht (fun z => kt z V p l e R s m args below meth c H locs Gl ws tys lsC hC hR hN hH hS hu hv hL) (fun z => kf z V p l e R s m args below meth c H locs Gl ws tys lsC hC hR hN hH hS hu hv hL)
theorem r_if_gt {x : Int32} {off : Int} (tgt : Nat) (hd : decode (i_cc I) pc = .ok (.ifCond .gt off, 3)) (ht : (pc : Int) + off = (tgt : Int)) (kt : 0 < x → AW I tgt ls st h uc us Q) (kf : ¬ 0 < x → AW I (pc + 3) ls st h uc us Q) : AW I pc ls (.int x :: st) h uc us Q := by
  intro V p l e R s m args below meth c H locs Gl ws tys lsC hC hR hN hH hS hu hv hL
  exact lv_if_gt hC.1 hC.2.1 hd ht (fun z => kt z V p l e R s m args below meth c H locs Gl ws tys lsC hC hR hN hH hS hu hv hL) (fun z => kf z V p l e R s m args below meth c H locs Gl ws tys lsC hC hR hN hH hS hu hv hL)
theorem r_icmp_gt {x y : Int32} {off : Int} (tgt : Nat) (hd : decode (i_cc I) pc = .ok (.if_icmp .gt off, 3)) (ht : (pc : Int) + off = (tgt : Int)) (kt : y < x → AW I tgt ls st h uc us Q) (kf : ¬ y < x → AW I (pc + 3) ls st h uc us Q) : AW I pc ls (.int y :: .int x :: st) h uc us Q := by
  intro V p l e R s m args below meth c H locs Gl ws tys lsC hC hR hN hH hS hu hv hL
  exact lv_icmp_gt hC.1 hC.2.1 hd ht (fun z => kt z V p l e R s m args below meth c H locs Gl ws tys lsC hC hR hN hH hS hu hv hL) (fun z => kf z V p l e R s m args below meth c H locs Gl ws tys lsC hC hR hN hH hS hu hv hL)
theorem r_if_le {x : Int32} {off : Int} (tgt : Nat) (hd : decode (i_cc I) pc = .ok (.ifCond .le off, 3)) (ht : (pc : Int) + off = (tgt : Int)) (kt : x ≤ 0 → AW I tgt ls st h uc us Q) (kf : ¬ x ≤ 0 → AW I (pc + 3) ls st h uc us Q) : AW I pc ls (.int x :: st) h uc us Q := by
  intro V p l e R s m args below meth c H locs Gl ws tys lsC hC hR hN hH hS hu hv hL
  exact lv_if_le hC.1 hC.2.1 hd ht (fun z => kt z V p l e R s m args below meth c H locs Gl ws tys lsC hC hR hN hH hS hu hv hL) (fun z => kf z V p l e R s m args below meth c H locs Gl ws tys lsC hC hR hN hH hS hu hv hL)
theorem r_icmp_le {x y : Int32} {off : Int} (tgt : Nat) (hd : decode (i_cc I) pc = .ok (.if_icmp .le off, 3)) (ht : (pc : Int) + off = (tgt : Int)) (kt : x ≤ y → AW I tgt ls st h uc us Q) (kf : ¬ x ≤ y → AW I (pc + 3) ls st h uc us Q) : AW I pc ls (.int y :: .int x :: st) h uc us Q := by
  intro V p l e R s m args below meth c H locs Gl ws tys lsC hC hR hN hH hS hu hv hL
  exact lv_icmp_le hC.1 hC.2.1 hd ht (fun z => kt z V p l e R s m args below meth c H locs Gl ws tys lsC hC hR hN hH hS hu hv hL) (fun z => kf z V p l e R s m args below meth c H locs Gl ws tys lsC hC hR hN hH hS hu hv hL)
theorem r_goto {off : Int} (tgt : Nat) (hd : decode (i_cc I) pc = .ok (.goto off, 3)) (ht : (pc : Int) + off = (tgt : Int)) (k : AW I tgt ls st h uc us Q) : AW I pc ls st h uc us Q := by
  intro V p l e R s m args below meth c H locs Gl ws tys lsC hC hR hN hH hS hu hv hL
  exact lv_goto hC.1 hC.2.1 hd ht (k V p l e R s m args below meth c H locs Gl ws tys lsC hC hR hN hH hS hu hv hL)
theorem r_swOut {dflt lo hi : Int} {offs : Array Int} {len : Nat} {x : Int32} (tgt : Nat) (hd : decode (i_cc I) pc = .ok (.tableswitch dflt lo hi offs, len)) (hx : x.toInt < lo ∨ hi < x.toInt) (ht : (pc : Int) + dflt = (tgt : Int)) (k : AW I tgt ls st h uc us Q) : AW I pc ls (.int x :: st) h uc us Q := by
  intro V p l e R s m args below meth c H locs Gl ws tys lsC hC hR hN hH hS hu hv hL
  exact lv_tableOut hC.1 hC.2.1 hd hx ht (k V p l e R s m args below meth c H locs Gl ws tys lsC hC hR hN hH hS hu hv hL)
theorem r_swIn {dflt lo hi : Int} {offs : Array Int} {len : Nat} {x : Int32} {off : Int} (tgt : Nat) (hd : decode (i_cc I) pc = .ok (.tableswitch dflt lo hi offs, len)) (h1 : ¬ x.toInt < lo) (h2 : ¬ hi < x.toInt) (ho : offs[(x.toInt - lo).toNat]? = some off) (ht : (pc : Int) + off = (tgt : Int)) (k : AW I tgt ls st h uc us Q) : AW I pc ls (.int x :: st) h uc us Q := by
  intro V p l e R s m args below meth c H locs Gl ws tys lsC hC hR hN hH hS hu hv hL
  exact lv_tableIn hC.1 hC.2.1 hd h1 h2 ho ht (k V p l e R s m args below meth c H locs Gl ws tys lsC hC hR hN hH hS hu hv hL)
end AR
end
section
/-- a field's link: of the method's class, at this entry: field k of class ci -/
def a_FL (own : String) (ix ci k : Nat) : Prop :=
  ∃ r : vw_C, a_cls[ci]? = some r ∧ k < r.2.2 ∧ Cond.fieldLink own ix r.1 (r.2.1 k).2.1 (r.2.1 k).2.2.1 ∈ a_GT ∧ (∀ w ∈ u_ws r.1 r.2.1 r.2.2, w ∈ a_GT) ∧ (r.2.1 k).1 = r.1
/-- what a class's table has to say: the descriptors' types, the names apart -/
def a_tyf (ci : Nat) : Nat → FieldType := match ci with
  | 0 => tyX0
  | 1 => tyX1
  | 2 => tyX2
  | 3 => tyX3
  | 4 => tyX4
  | 5 => tyX5
  | 6 => tyX6
  | 7 => tyX7
  | 8 => tyX8
  | 9 => tyX9
  | _ => tyX10
theorem a_cls_ok : ∀ (ci : Nat) (r : vw_C), a_cls[ci]? = some r → (∀ k, k < r.2.2 → parseFieldDescriptor (r.2.1 k).2.2.1 = some (a_tyf ci k)) ∧ (∀ a, a < r.2.2 → ∀ b, b < r.2.2 → a ≠ b → (r.2.1 a).2.1 ≠ (r.2.1 b).2.1) := by
  intro ci r h
  match ci, h with
  | 0, h => cases h; exact ⟨tyX0_ok, nmX0⟩
  | 1, h => cases h; exact ⟨tyX1_ok, nmX1⟩
  | 2, h => cases h; exact ⟨tyX2_ok, nmX2⟩
  | 3, h => cases h; exact ⟨tyX3_ok, nmX3⟩
  | 4, h => cases h; exact ⟨tyX4_ok, nmX4⟩
  | 5, h => cases h; exact ⟨tyX5_ok, nmX5⟩
  | 6, h => cases h; exact ⟨tyX6_ok, nmX6⟩
  | 7, h => cases h; exact ⟨tyX7_ok, nmX7⟩
  | 8, h => cases h; exact ⟨tyX8_ok, nmX8⟩
  | 9, h => cases h; exact ⟨tyX9_ok, nmX9⟩
  | 10, h => cases h; exact ⟨tyX10_ok, nmX10⟩
  | n + 11, h => simp [a_cls] at h
theorem a_C.adAt {V : a_V} {h : List a_E} {ws : va_W} {tys : List (ClassId × FieldType)} (hC : a_C V h ws tys) {c : Nat} (hc : c < h.length) : ∃ e, ws[c]? = some (a_ad V c, e) := by
  have h1 := hC.2 c h[c] (List.getElem?_eq_getElem hc)
  revert h1
  cases h[c] with
  | inr o => exact fun h1 => ⟨_, h1⟩
  | inl a => exact fun h1 => by obtain ⟨cA, t0, e1, -⟩ := h1; exact ⟨_, e1⟩
theorem a_new {V : a_V} {h : List a_E} {ws : va_W} {tys : List (ClassId × FieldType)} {q : Nat} {e : va_E} (hC : a_C V h ws tys) (hl : h.length < 5000) (hD : va_D (a_A V) (ws ++ [(q, e)])) (hq : q < V.2.1 + h.length + 1) : q = a_ad V h.length := by
  have hlast : (ws ++ [(q, e)])[ws.length]? = some (q, e) := by rw [List.getElem?_append_right (Nat.le_refl _), Nat.sub_self]; rfl
  have h1 : V.2.1 ≤ q := hD.2 _ _ hlast
  have h2 : a_ad V h.length = V.2.1 + h.length := if_pos hl
  rw [h2]
  by_cases hlt : q < V.2.1 + h.length
  · obtain ⟨e2, he2⟩ := hC.adAt (c := q - V.2.1) (by omega)
    have h3 : a_ad V (q - V.2.1) = q := by
      rw [show a_ad V (q - V.2.1) = V.2.1 + (q - V.2.1) from if_pos (by omega)]
      omega
    rw [h3] at he2
    have hlw := (List.getElem?_eq_some_iff.mp he2).1
    have h4 := hD.1 (q - V.2.1) ws.length (q, e2) (q, e) (by rw [List.getElem?_append_left hlw]; exact he2) hlast rfl
    omega
  · omega
section AH
variable {I : a_I} {pc uc us : Nat} {ls st : List Value} {h : a_H} {Q : a_Q}
theorem r_get {ix c : Nat} (ci k : Nat) {vs : List Value} {v : Value} (hd : decode (i_cc I) pc = .ok (.getfield ix, 3)) (hf : a_FL (i_own I) ix ci k) (hh : h.2[c]? = some (.inr (ci, vs))) (hv : vs[k]? = some v) (kk : AW I (pc + 3) ls (v :: st) h uc us Q) : AW I pc ls (.ref c :: st) h uc us Q := by
  intro V p l e R s m args below meth c9 H locs Gl ws tys lsC hC hR hN hH hS hu hv2 hL
  obtain ⟨r, hr, hk, hw, hin, hre⟩ := hf
  refine va_get (C := r.1) (T := r.2.1) (N := r.2.2) (ref := r.1) hC.1 hC.2.1 hC.2.2.2.2.1 hin hC.2.2.2.1 hH.2.2.2 hH.2.1 _ (hH.1.objAt hh) hr k hk (hC.2.2.2.2.1 _ hw) (fun x hx => by rw [← hre]; exact hx) (v := a_cv V v) (by rw [List.getElem?_map, hv]; rfl) hd ?_
  exact kk V p l e R s m args below meth c9 H locs Gl ws tys lsC hC hR hN hH hS hu hv2 hL
/-- an int field -/
theorem r_put {ix c : Nat} (ci k : Nat) {vs : List Value} {x : Int32} (hd : decode (i_cc I) pc = .ok (.putfield ix, 3)) (hf : a_FL (i_own I) ix ci k) (hfin : ∀ r, a_cls[ci]? = some r → (r.2.1 k).2.2 = ("I", false)) (hh : h.2[c]? = some (.inr (ci, vs))) (hl : k < vs.length)
    (kk : AW I (pc + 3) ls st (h.1, h.2.set c (.inr (ci, vs.set k (.int x)))) uc us Q) : AW I pc ls (.int x :: .ref c :: st) h uc us Q := by
  intro V p l e R s m args below meth c9 H locs Gl ws tys lsC hC hR hN hH hS hu hv2 hL
  obtain ⟨r, hr, hk, hw, hin, hre⟩ := hf
  have hfr := hfin r hr
  have hok := a_cls_ok ci r hr
  refine va_put (C := r.1) (T := r.2.1) (N := r.2.2) (ref := r.1) hC.1 hC.2.1 hC.2.2.2.2.1 hin (a_tyf ci) hok.1 hok.2 hC.2.2.2.1 hH.2.2.2 hH.2.1 hH.2.2.1 hS c (hH.1.objAt hh) hr k hk (hC.2.2.2.2.1 _ hw) (fun y hy => by rw [← hre]; exact hy) (by rw [hfr]) (ty := .int) (v := .int x) (by rw [hfr]; decide +kernel) rfl rfl (by simpa using hl) hd (fun H1 locs1 hP hD hS1 => ?_)
  have e1 : (vs.map (a_cv V)).set k (.int x) = (vs.set k (.int x)).map (a_cv V) := by rw [List.map_set]; rfl
  rw [e1] at hP hD
  exact kk V p l e R s m args below meth c9 H1 locs1 Gl _ tys lsC hC hR (fun z => by rw [List.length_set]; exact hN z) ⟨hH.1.setO hh _, hP, hD, hH.2.2.2⟩ hS1 hu hv2 hL
/-- a final field that holds a reference, in the constructor -/
theorem r_putF {ix c b : Nat} (ci k : Nat) {vs : List Value} (hd : decode (i_cc I) pc = .ok (.putfield ix, 3)) (hf : a_FL (i_own I) ix ci k) (hini : i_ini I = true) (hfin : ∀ r, a_cls[ci]? = some r → (r.2.1 k).2.2.2 = true ∧ r.1 = i_own I) (hfit : ∀ a : Nat, narrow (a_tyf ci k) (.ref a) = .ref a ∧ fits (a_tyf ci k) (.ref a) = true) (hh : h.2[c]? = some (.inr (ci, vs))) (hl : k < vs.length)
    (kk : AW I (pc + 3) ls st (h.1, h.2.set c (.inr (ci, vs.set k (.ref b)))) uc us Q) : AW I pc ls (.ref b :: .ref c :: st) h uc us Q := by
  intro V p l e R s m args below meth c9 H locs Gl ws tys lsC hC hR hN hH hS hu hv2 hL
  obtain ⟨r, hr, hk, hw, hin, hre⟩ := hf
  obtain ⟨hfr, hro⟩ := hfin r hr
  have hok := a_cls_ok ci r hr
  refine va_putF (C := r.1) (T := r.2.1) (N := r.2.2) (ref := r.1) hC.1 hC.2.1 hC.2.2.2.2.1 hin (a_tyf ci) hok.1 hok.2 hC.2.2.2.1 hH.2.2.2 hH.2.1 hH.2.2.1 hS c (hH.1.objAt hh) hr k hk (hC.2.2.2.2.1 _ hw) (fun y hy => by rw [← hre]; exact hy) hfr (hC.2.2.2.2.2.2.2.2.2.1 hini) (by rw [hre]; exact hro) (v := a_cv V (.ref b)) (hok.1 k hk) (hfit _).1 (hfit _).2 (by simpa using hl) hd (fun H1 locs1 hP hD hS1 => ?_)
  rw [← List.map_set] at hP hD
  exact kk V p l e R s m args below meth c9 H1 locs1 Gl _ tys lsC hC hR (fun z => by rw [List.length_set]; exact hN z) ⟨hH.1.setO hh _, hP, hD, hH.2.2.2⟩ hS1 hu hv2 hL
theorem r_new {ix : Nat} (ci : Nat) {hl : List a_E} (fs : List Value) {r : vw_C} (hd : decode (i_cc I) pc = .ok (.new ix, 3)) (hr : a_cls[ci]? = some r) (hw1 : Cond.classLink (i_own I) ix r.1 ∈ a_GT) (hw2 : Cond.instantiable r.1 r.2.2 ∈ a_GT) (hw3 : Cond.initialized r.1 ∈ a_GT) (hin : ∀ w ∈ u_ws r.1 r.2.1 r.2.2, w ∈ a_GT)
    (hfs : ∀ j, j < r.2.2 → defaultValue (a_tyf ci j) = vp_V fs j) (hfc : ∀ V : a_V, fs.map (a_cv V) = fs) (hln : hl.length < 4999) (hu1 : uc + 1 ≤ i_mc I) (hv1 : us + r.2.2 ≤ i_ms I)
    (kk : AW I (pc + 3) ls (.ref hl.length :: st) (true, hl ++ [.inr (ci, fs)]) (uc + 1) (us + r.2.2) Q) : AW I pc ls st (true, hl) uc us Q := by
  intro V p l e R s m args below meth c9 H locs Gl ws tys lsC hC hR hN hH hS hu hv2 hL
  have hok := a_cls_ok ci r hr
  have hroom := hC.2.2.2.2.2.2.2.1
  have hB := hC.2.2.2.2.2.2.2.2.2.2.2.1
  have hN1 := (hN rfl).1
  refine va_new (C := r.1) (T := r.2.1) (N := r.2.2) hC.1 hC.2.1 hC.2.2.2.2.1 hin (a_tyf ci) hok.1 hC.2.2.2.1 (hC.2.2.2.2.1 _ hw1) (hC.2.2.2.2.1 _ hw2) (hC.2.2.2.2.1 _ hw3) hH.2.2.2 hH.2.1 hH.2.2.1 hS (fun q hq => by unfold a_A; omega) hr hfs (by rw [hroom.2.2.1]; exact hu1) (by rw [hroom.2.2.2]; exact hv1) hd (fun q H1 hP hD hS1 => ?_)
  intro T hT X
  have hz := X.heapSize
  have hq : q < H1.size := (hP ws.length (q, .inr (ci, fs)) (by rw [List.getElem?_append_right (Nat.le_refl _), Nat.sub_self]; rfl)).lt
  have hqa : q = a_ad V hl.length := a_new (h := hl) hH.1 (by omega) hD (by rw [hT] at hz; dsimp only at hN1; omega)
  subst hqa
  have hC2 := hH.1.pushO ci fs
  rw [hfc V] at hC2
  exact kk V p l e R s m args below meth c9 H1 locs Gl _ tys lsC hC hR (fun z => by dsimp only at hN1 ⊢; rw [List.length_append]; show _ = _ + (_ + 1) ∧ _ + 1 ≤ 5000; omega) ⟨hC2, hP, hD, hH.2.2.2⟩ hS1 hu1 hv1 hL T hT X
end AH
end
section
theorem a_defi (ty : FieldType) (t : Nat) (cA : ClassId) : True := trivial
section AH2
variable {I : a_I} {pc uc us : Nat} {ls st : List Value} {h : a_H} {Q : a_Q}
theorem r_iald {c n : Nat} {f : Nat → Int32} {i : Int32} (hd : decode (i_cc I) pc = .ok (.iaload, 1)) (hh : h.2[c]? = some (.inl (0, n, .inl f))) (hin : vp_in i n) (kk : AW I (pc + 1) ls (.int (f i.toNatClampNeg) :: st) h uc us Q) : AW I pc ls (.int i :: .ref c :: st) h uc us Q := by
  intro V p l e R s m args below meth c9 H locs Gl ws tys lsC hC hR hN hH hS hu hv2 hL
  obtain ⟨cA, t0, e1, e2⟩ := hH.1.arrAt hh
  exact va_iald hC.1 hC.2.1 hH.2.2.2 hH.2.1 c t0 e1 e2 hin hd (kk V p l e R s m args below meth c9 H locs Gl ws tys lsC hC hR hN hH hS hu hv2 hL)
theorem r_iast {c n : Nat} {f : Nat → Int32} {i : Int32} {x : Int32} (hd : decode (i_cc I) pc = .ok (.iastore, 1)) (hh : h.2[c]? = some (.inl (0, n, .inl f))) (hin : vp_in i n) (kk : AW I (pc + 1) ls st (h.1, h.2.set c (.inl (0, n, .inl (upd f i.toNatClampNeg x)))) uc us Q) : AW I pc ls (.int x :: .int i :: .ref c :: st) h uc us Q := by
  intro V p l e R s m args below meth c9 H locs Gl ws tys lsC hC hR hN hH hS hu hv2 hL
  obtain ⟨cA, t0, e1, e2⟩ := hH.1.arrAt hh
  refine va_iast hC.1 hC.2.1 hH.2.2.2 hH.2.1 hH.2.2.1 hS c t0 e1 e2 hin hd (fun H1 locs1 hP hD hS1 => ?_)
  exact kk V p l e R s m args below meth c9 H1 locs1 Gl _ tys lsC hC hR (fun z => by rw [List.length_set]; exact hN z) ⟨hH.1.setA hh e2 _, hP, hD, hH.2.2.2⟩ hS1 hu hv2 hL
theorem r_bald {c n : Nat} {f : Nat → Int32} {i : Int32} (hd : decode (i_cc I) pc = .ok (.baload, 1)) (hh : h.2[c]? = some (.inl (1, n, .inl f))) (hin : vp_in i n) (kk : AW I (pc + 1) ls (.int (f i.toNatClampNeg) :: st) h uc us Q) : AW I pc ls (.int i :: .ref c :: st) h uc us Q := by
  intro V p l e R s m args below meth c9 H locs Gl ws tys lsC hC hR hN hH hS hu hv2 hL
  obtain ⟨cA, t0, e1, e2⟩ := hH.1.arrAt hh
  exact va_bald hC.1 hC.2.1 hH.2.2.2 hH.2.1 c t0 e1 e2 hin hd (kk V p l e R s m args below meth c9 H locs Gl ws tys lsC hC hR hN hH hS hu hv2 hL)
theorem r_bast {c n : Nat} {f : Nat → Int32} {i : Int32} {x : Int32} (hd : decode (i_cc I) pc = .ok (.bastore, 1)) (hh : h.2[c]? = some (.inl (1, n, .inl f))) (hin : vp_in i n) (kk : AW I (pc + 1) ls st (h.1, h.2.set c (.inl (1, n, .inl (upd f i.toNatClampNeg (vp_nar .byte x))))) uc us Q) : AW I pc ls (.int x :: .int i :: .ref c :: st) h uc us Q := by
  intro V p l e R s m args below meth c9 H locs Gl ws tys lsC hC hR hN hH hS hu hv2 hL
  obtain ⟨cA, t0, e1, e2⟩ := hH.1.arrAt hh
  refine va_bast hC.1 hC.2.1 hH.2.2.2 hH.2.1 hH.2.2.1 hS c t0 e1 e2 hin hd (fun H1 locs1 hP hD hS1 => ?_)
  exact kk V p l e R s m args below meth c9 H1 locs1 Gl _ tys lsC hC hR (fun z => by rw [List.length_set]; exact hN z) ⟨hH.1.setA hh e2 _, hP, hD, hH.2.2.2⟩ hS1 hu hv2 hL
theorem r_lald {c n : Nat} {f : Nat → Int64} {i : Int32} (hd : decode (i_cc I) pc = .ok (.laload, 1)) (hh : h.2[c]? = some (.inl (2, n, .inr (.inl f)))) (hin : vp_in i n) (kk : AW I (pc + 1) ls (.long (f i.toNatClampNeg) :: st) h uc us Q) : AW I pc ls (.int i :: .ref c :: st) h uc us Q := by
  intro V p l e R s m args below meth c9 H locs Gl ws tys lsC hC hR hN hH hS hu hv2 hL
  obtain ⟨cA, t0, e1, e2⟩ := hH.1.arrAt hh
  exact va_lald hC.1 hC.2.1 hH.2.2.2 hH.2.1 c t0 e1 e2 hin hd (kk V p l e R s m args below meth c9 H locs Gl ws tys lsC hC hR hN hH hS hu hv2 hL)
theorem r_last {c n : Nat} {f : Nat → Int64} {i : Int32} {x : Int64} (hd : decode (i_cc I) pc = .ok (.lastore, 1)) (hh : h.2[c]? = some (.inl (2, n, .inr (.inl f)))) (hin : vp_in i n) (kk : AW I (pc + 1) ls st (h.1, h.2.set c (.inl (2, n, .inr (.inl (vp_updL f i.toNatClampNeg (x)))))) uc us Q) : AW I pc ls (.long x :: .int i :: .ref c :: st) h uc us Q := by
  intro V p l e R s m args below meth c9 H locs Gl ws tys lsC hC hR hN hH hS hu hv2 hL
  obtain ⟨cA, t0, e1, e2⟩ := hH.1.arrAt hh
  refine va_last hC.1 hC.2.1 hH.2.2.2 hH.2.1 hH.2.2.1 hS c t0 e1 e2 hin hd (fun H1 locs1 hP hD hS1 => ?_)
  exact kk V p l e R s m args below meth c9 H1 locs1 Gl _ tys lsC hC hR (fun z => by rw [List.length_set]; exact hN z) ⟨hH.1.setA hh e2 _, hP, hD, hH.2.2.2⟩ hS1 hu hv2 hL
theorem r_dald {c n : Nat} {f : Nat → UInt64} {i : Int32} (hd : decode (i_cc I) pc = .ok (.daload, 1)) (hh : h.2[c]? = some (.inl (3, n, .inr (.inr (.inr (.inl f)))))) (hin : vp_in i n) (kk : AW I (pc + 1) ls (.double (f i.toNatClampNeg) :: st) h uc us Q) : AW I pc ls (.int i :: .ref c :: st) h uc us Q := by
  intro V p l e R s m args below meth c9 H locs Gl ws tys lsC hC hR hN hH hS hu hv2 hL
  obtain ⟨cA, t0, e1, e2⟩ := hH.1.arrAt hh
  exact va_dald hC.1 hC.2.1 hH.2.2.2 hH.2.1 c t0 e1 e2 hin hd (kk V p l e R s m args below meth c9 H locs Gl ws tys lsC hC hR hN hH hS hu hv2 hL)
theorem r_dast {c n : Nat} {f : Nat → UInt64} {i : Int32} {x : UInt64} (hd : decode (i_cc I) pc = .ok (.dastore, 1)) (hh : h.2[c]? = some (.inl (3, n, .inr (.inr (.inr (.inl f)))))) (hin : vp_in i n) (kk : AW I (pc + 1) ls st (h.1, h.2.set c (.inl (3, n, .inr (.inr (.inr (.inl (vf_upd f i.toNatClampNeg (x)))))))) uc us Q) : AW I pc ls (.double x :: .int i :: .ref c :: st) h uc us Q := by
  intro V p l e R s m args below meth c9 H locs Gl ws tys lsC hC hR hN hH hS hu hv2 hL
  obtain ⟨cA, t0, e1, e2⟩ := hH.1.arrAt hh
  refine va_dast hC.1 hC.2.1 hH.2.2.2 hH.2.1 hH.2.2.1 hS c t0 e1 e2 hin hd (fun H1 locs1 hP hD hS1 => ?_)
  exact kk V p l e R s m args below meth c9 H1 locs1 Gl _ tys lsC hC hR (fun z => by rw [List.length_set]; exact hN z) ⟨hH.1.setA hh e2 _, hP, hD, hH.2.2.2⟩ hS1 hu hv2 hL
theorem r_aald {c n b : Nat} {f : Nat → Option Nat} {i : Int32} (hd : decode (i_cc I) pc = .ok (.aaload, 1)) (hh : h.2[c]? = some (.inl (4, n, .inr (.inr (.inr (.inr f)))))) (hin : vp_in i n) (hb : f i.toNatClampNeg = some b) (kk : AW I (pc + 1) ls (.ref b :: st) h uc us Q) : AW I pc ls (.int i :: .ref c :: st) h uc us Q := by
  intro V p l e R s m args below meth c9 H locs Gl ws tys lsC hC hR hN hH hS hu hv2 hL
  obtain ⟨cA, t0, e1, e2⟩ := hH.1.arrAt hh
  refine va_aldq hC.1 hC.2.1 hH.2.2.2 hH.2.1 c t0 e1 e2 hin hd ?_
  rw [hb]
  exact kk V p l e R s m args below meth c9 H locs Gl ws tys lsC hC hR hN hH hS hu hv2 hL
theorem r_aast {c n b ci : Nat} {vs : List Value} {r : vw_C} {f : Nat → Option Nat} {i : Int32} (hd : decode (i_cc I) pc = .ok (.aastore, 1)) (hh : h.2[c]? = some (.inl (4, n, .inr (.inr (.inr (.inr f)))))) (hin : vp_in i n) (hb : h.2[b]? = some (.inr (ci, vs))) (hr : a_cls[ci]? = some r) (hr5 : r.1 = RX5) (kk : AW I (pc + 1) ls st (h.1, h.2.set c (.inl (4, n, .inr (.inr (.inr (.inr (va_up f i.toNatClampNeg (some b)))))))) uc us Q) : AW I pc ls (.ref b :: .int i :: .ref c :: st) h uc us Q := by
  intro V p l e R s m args below meth c9 H locs Gl ws tys lsC hC hR hN hH hS hu hv2 hL
  obtain ⟨cA, t0, e1, e2⟩ := hH.1.arrAt hh
  refine va_astq (r := r) hC.1 hC.2.1 hH.2.2.2 hH.2.1 hH.2.2.1 hS c t0 b ci e1 (by rw [hr5]; exact e2) (hH.1.objAt hb) hr hin hd (fun H1 locs1 hP hD hS1 => ?_)
  have e3 : va_up (fun j => (f j).map (a_ad V)) i.toNatClampNeg (some (a_ad V b)) = fun j => (va_up f i.toNatClampNeg (some b) j).map (a_ad V) := by
    funext j
    unfold va_up
    by_cases hj : j = i.toNatClampNeg <;> simp [hj]
  rw [e3] at hP hD
  exact kk V p l e R s m args below meth c9 H1 locs1 Gl _ tys lsC hC hR (fun z => by rw [List.length_set]; exact hN z) ⟨hH.1.setA hh e2 _, hP, hD, hH.2.2.2⟩ hS1 hu hv2 hL
theorem r_alen {c t : Nat} {a : vp_A} (hd : decode (i_cc I) pc = .ok (.arraylength, 1)) (hh : h.2[c]? = some (.inl (t, a))) (kk : AW I (pc + 1) ls (.int (Int32.ofNat a.1) :: st) h uc us Q) : AW I pc ls (.ref c :: st) h uc us Q := by
  intro V p l e R s m args below meth c9 H locs Gl ws tys lsC hC hR hN hH hS hu hv2 hL
  obtain ⟨cA, t0, e1, e2⟩ := hH.1.arrAt hh
  exact va_alen hC.1 hC.2.1 hH.2.2.2 hH.2.1 c t0 e1 e2 rfl hd (kk V p l e R s m args below meth c9 H locs Gl ws tys lsC hC hR hN hH hS hu hv2 hL)
theorem r_slen {L : Nat} {xs : Nat → Int32} (hd : decode (i_cc I) pc = .ok (.arraylength, 1)) (hx : i_xs I = some (L, xs)) (kk : AW I (pc + 1) ls (.int (Int32.ofNat L) :: st) h uc us Q) : AW I pc ls (.ref 5000 :: st) h uc us Q := by
  intro V p l e R s m args below meth c9 H locs Gl ws tys lsC hC hR hN hH hS hu hv2 hL
  have hX := hC.2.2.2.2.2.2.2.2.2.2.1
  have hB := hC.2.2.2.2.2.2.2.2.2.2.2.1
  have hq := hC.2.2.2.2.2.2.2.2.2.2.2.2 _ hx
  have hX1 := hX.1.1
  rw [hq.1, hq.2] at hX1
  exact va_slen hC.1 hC.2.1 hX1 (Nat.lt_of_lt_of_le hX.1.2 hB) (Nat.not_le.mpr hX.1.2) hS hd (kk V p l e R s m args below meth c9 H locs Gl ws tys lsC hC hR hN hH hS hu hv2 hL)
theorem r_sald {L : Nat} {xs : Nat → Int32} {i : Int32} (hd : decode (i_cc I) pc = .ok (.iaload, 1)) (hx : i_xs I = some (L, xs)) (hin : vp_in i L) (kk : AW I (pc + 1) ls (.int (xs i.toNatClampNeg) :: st) h uc us Q) : AW I pc ls (.int i :: .ref 5000 :: st) h uc us Q := by
  intro V p l e R s m args below meth c9 H locs Gl ws tys lsC hC hR hN hH hS hu hv2 hL
  have hX := hC.2.2.2.2.2.2.2.2.2.2.1
  have hB := hC.2.2.2.2.2.2.2.2.2.2.2.1
  have hq := hC.2.2.2.2.2.2.2.2.2.2.2.2 _ hx
  have hX1 := hX.1.1
  rw [hq.1, hq.2] at hX1
  exact va_sld hC.1 hC.2.1 hX1 (Nat.lt_of_lt_of_le hX.1.2 hB) (Nat.not_le.mpr hX.1.2) hS hin hd (kk V p l e R s m args below meth c9 H locs Gl ws tys lsC hC hR hN hH hS hu hv2 hL)
/-- a static array's reference: from the class itself, or from a nest mate -/
theorem r_gets {ix : Nat} (k : Nat) (hd : decode (i_cc I) pc = .ok (.getstatic ix, 3)) (hk : k < 3) (hw : Cond.fieldLink (i_own I) ix RX9 (a_sn k) "[I" ∈ a_GT ∨ Cond.fieldLinkNest (i_own I) ix RX9 (a_sn k) "[I" RX9 ∈ a_GN) (kk : AW I (pc + 3) ls (.ref (5001 + k) :: st) h uc us Q) : AW I pc ls st h uc us Q := by
  intro V p l e R s m args below meth c9 H locs Gl ws tys lsC hC hR hN hH hS hu hv2 hL
  have hX := hC.2.2.2.2.2.2.2.2.2.2.1
  rcases hw with hw | hw
  · exact va_gets hC.1 hC.2.1 (hX.2.1 k hk).1 hS hC.2.2.2.1 (hC.2.2.2.2.1 _ hw) (fun x hx => hx) hd (kk V p l e R s m args below meth c9 H locs Gl ws tys lsC hC hR hN hH hS hu hv2 hL)
  · exact va_getsN hC.1 hC.2.1 (hX.2.1 k hk).1 hS hC.2.2.2.1 (va_Nw.use rfl (hX.2.2.2.2.2.2.2.2.2 _ hw)) (fun x hx => hx) hd (kk V p l e R s m args below meth c9 H locs Gl ws tys lsC hC hR hN hH hS hu hv2 hL)
theorem r_tald {i : Int32} (k : Nat) (hd : decode (i_cc I) pc = .ok (.iaload, 1)) (hk : k < 3) (hin : vp_in i 3) (kk : AW I (pc + 1) ls (.int ((a_sv k).getD i.toNatClampNeg 0) :: st) h uc us Q) : AW I pc ls (.int i :: .ref (5001 + k) :: st) h uc us Q := by
  intro V p l e R s m args below meth c9 H locs Gl ws tys lsC hC hR hN hH hS hu hv2 hL
  have hX := hC.2.2.2.2.2.2.2.2.2.2.1
  exact va_ti hC.1 hC.2.1 (hX.2.1 k hk).2 hS hin rfl hd (kk V p l e R s m args below meth c9 H locs Gl ws tys lsC hC hR hN hH hS hu hv2 hL)
theorem r_kw {ix : Nat} (k : Nat) (hd : decode (i_cc I) pc = .ok (.ldc ix, 2)) (hk : (i_own I, ix, k) ∈ a_kc) (kk : AW I (pc + 2) ls (.ref (5010 + k) :: st) h uc us Q) : AW I pc ls st h uc us Q := by
  intro V p l e R s m args below meth c9 H locs Gl ws tys lsC hC hR hN hH hS hu hv2 hL
  have hX := hC.2.2.2.2.2.2.2.2.2.2.1
  exact va_ldcS hC.1 hC.2.1 hC.2.2.2.1 (hX.2.2.2.1 _ hk) hd (kk V p l e R s m args below meth c9 H locs Gl ws tys lsC hC hR hN hH hS hu hv2 hL)
theorem r_new_int {hl : List a_E} {n : Int32} (N : Nat) (hd : decode (i_cc I) pc = .ok (.newarray .int, 2)) (hw : Cond.arrayClass .int ∈ a_GT) (hn : ¬ n < 0) (hN : n.toNatClampNeg = N) (hb : N ≤ 65536) (hln : hl.length < 4999) (hu1 : uc + 1 ≤ i_mc I) (hv1 : us + N ≤ i_ms I)
    (kk : AW I (pc + 2) ls (.ref hl.length :: st) (true, hl ++ [.inl (0, N, .inl (fun _ => 0))]) (uc + 1) (us + N) Q) : AW I pc ls (.int n :: st) (true, hl) uc us Q := by
  intro V p l e R s m args below meth c9 H locs Gl ws tys lsC hC hR hNN hH hS hu hv2 hL
  have hroom := hC.2.2.2.2.2.2.2.1
  have hB := hC.2.2.2.2.2.2.2.2.2.2.2.1
  have hN1 := (hNN rfl).1
  refine va_newa (atype := .int) (ty := .int) (a0 := (N, .inl (fun _ => 0))) hC.1 hC.2.1 (hC.2.2.2.2.1 _ hw) rfl hH.2.2.2 hH.2.1 hH.2.2.1 hS (fun q hq => by unfold a_A; omega) (fun cA => rfl) hn hN (by show N * 4 ≤ _; omega) (by rw [hroom.2.2.1]; exact hu1) (by rw [hroom.2.2.2]; exact hv1) hd (fun q cA H1 hK hP hD hS1 => ?_)
  intro T hT X
  have hz := X.heapSize
  have hq : q < H1.size := (hP ws.length (q, .inl (cA, (N, .inl (fun _ => 0)))) (by rw [List.getElem?_append_right (Nat.le_refl _), Nat.sub_self]; rfl)).lt
  have hqa : q = a_ad V hl.length := a_new (h := hl) hH.1 (by omega) hD (by rw [hT] at hz; dsimp only at hN1; omega)
  subst hqa
  exact kk V p l e R s m args below meth c9 H1 locs Gl _ _ lsC hC hR (fun z => by dsimp only at hN1 ⊢; rw [List.length_append]; show _ = _ + (_ + 1) ∧ _ + 1 ≤ 5000; omega) ⟨hH.1.pushA cA 0 (N, .inl (fun _ => 0)), hP, hD, hK⟩ hS1 hu1 hv1 hL T hT X
theorem r_new_byte {hl : List a_E} {n : Int32} (N : Nat) (hd : decode (i_cc I) pc = .ok (.newarray .byte, 2)) (hw : Cond.arrayClass .byte ∈ a_GT) (hn : ¬ n < 0) (hN : n.toNatClampNeg = N) (hb : N ≤ 65536) (hln : hl.length < 4999) (hu1 : uc + 1 ≤ i_mc I) (hv1 : us + N ≤ i_ms I)
    (kk : AW I (pc + 2) ls (.ref hl.length :: st) (true, hl ++ [.inl (1, N, .inl (fun _ => 0))]) (uc + 1) (us + N) Q) : AW I pc ls (.int n :: st) (true, hl) uc us Q := by
  intro V p l e R s m args below meth c9 H locs Gl ws tys lsC hC hR hNN hH hS hu hv2 hL
  have hroom := hC.2.2.2.2.2.2.2.1
  have hB := hC.2.2.2.2.2.2.2.2.2.2.2.1
  have hN1 := (hNN rfl).1
  refine va_newa (atype := .byte) (ty := .byte) (a0 := (N, .inl (fun _ => 0))) hC.1 hC.2.1 (hC.2.2.2.2.1 _ hw) rfl hH.2.2.2 hH.2.1 hH.2.2.1 hS (fun q hq => by unfold a_A; omega) (fun cA => rfl) hn hN (by show N * 1 ≤ _; omega) (by rw [hroom.2.2.1]; exact hu1) (by rw [hroom.2.2.2]; exact hv1) hd (fun q cA H1 hK hP hD hS1 => ?_)
  intro T hT X
  have hz := X.heapSize
  have hq : q < H1.size := (hP ws.length (q, .inl (cA, (N, .inl (fun _ => 0)))) (by rw [List.getElem?_append_right (Nat.le_refl _), Nat.sub_self]; rfl)).lt
  have hqa : q = a_ad V hl.length := a_new (h := hl) hH.1 (by omega) hD (by rw [hT] at hz; dsimp only at hN1; omega)
  subst hqa
  exact kk V p l e R s m args below meth c9 H1 locs Gl _ _ lsC hC hR (fun z => by dsimp only at hN1 ⊢; rw [List.length_append]; show _ = _ + (_ + 1) ∧ _ + 1 ≤ 5000; omega) ⟨hH.1.pushA cA 1 (N, .inl (fun _ => 0)), hP, hD, hK⟩ hS1 hu1 hv1 hL T hT X
theorem r_new_long {hl : List a_E} {n : Int32} (N : Nat) (hd : decode (i_cc I) pc = .ok (.newarray .long, 2)) (hw : Cond.arrayClass .long ∈ a_GT) (hn : ¬ n < 0) (hN : n.toNatClampNeg = N) (hb : N ≤ 65536) (hln : hl.length < 4999) (hu1 : uc + 1 ≤ i_mc I) (hv1 : us + N ≤ i_ms I)
    (kk : AW I (pc + 2) ls (.ref hl.length :: st) (true, hl ++ [.inl (2, N, .inr (.inl (fun _ => 0)))]) (uc + 1) (us + N) Q) : AW I pc ls (.int n :: st) (true, hl) uc us Q := by
  intro V p l e R s m args below meth c9 H locs Gl ws tys lsC hC hR hNN hH hS hu hv2 hL
  have hroom := hC.2.2.2.2.2.2.2.1
  have hB := hC.2.2.2.2.2.2.2.2.2.2.2.1
  have hN1 := (hNN rfl).1
  refine va_newa (atype := .long) (ty := .long) (a0 := (N, .inr (.inl (fun _ => 0)))) hC.1 hC.2.1 (hC.2.2.2.2.1 _ hw) rfl hH.2.2.2 hH.2.1 hH.2.2.1 hS (fun q hq => by unfold a_A; omega) (fun cA => rfl) hn hN (by show N * 8 ≤ _; omega) (by rw [hroom.2.2.1]; exact hu1) (by rw [hroom.2.2.2]; exact hv1) hd (fun q cA H1 hK hP hD hS1 => ?_)
  intro T hT X
  have hz := X.heapSize
  have hq : q < H1.size := (hP ws.length (q, .inl (cA, (N, .inr (.inl (fun _ => 0))))) (by rw [List.getElem?_append_right (Nat.le_refl _), Nat.sub_self]; rfl)).lt
  have hqa : q = a_ad V hl.length := a_new (h := hl) hH.1 (by omega) hD (by rw [hT] at hz; dsimp only at hN1; omega)
  subst hqa
  exact kk V p l e R s m args below meth c9 H1 locs Gl _ _ lsC hC hR (fun z => by dsimp only at hN1 ⊢; rw [List.length_append]; show _ = _ + (_ + 1) ∧ _ + 1 ≤ 5000; omega) ⟨hH.1.pushA cA 2 (N, .inr (.inl (fun _ => 0))), hP, hD, hK⟩ hS1 hu1 hv1 hL T hT X
theorem r_new_double {hl : List a_E} {n : Int32} (N : Nat) (hd : decode (i_cc I) pc = .ok (.newarray .double, 2)) (hw : Cond.arrayClass .double ∈ a_GT) (hn : ¬ n < 0) (hN : n.toNatClampNeg = N) (hb : N ≤ 65536) (hln : hl.length < 4999) (hu1 : uc + 1 ≤ i_mc I) (hv1 : us + N ≤ i_ms I)
    (kk : AW I (pc + 2) ls (.ref hl.length :: st) (true, hl ++ [.inl (3, N, .inr (.inr (.inr (.inl (fun _ => 0)))))]) (uc + 1) (us + N) Q) : AW I pc ls (.int n :: st) (true, hl) uc us Q := by
  intro V p l e R s m args below meth c9 H locs Gl ws tys lsC hC hR hNN hH hS hu hv2 hL
  have hroom := hC.2.2.2.2.2.2.2.1
  have hB := hC.2.2.2.2.2.2.2.2.2.2.2.1
  have hN1 := (hNN rfl).1
  refine va_newa (atype := .double) (ty := .double) (a0 := (N, .inr (.inr (.inr (.inl (fun _ => 0)))))) hC.1 hC.2.1 (hC.2.2.2.2.1 _ hw) rfl hH.2.2.2 hH.2.1 hH.2.2.1 hS (fun q hq => by unfold a_A; omega) (fun cA => rfl) hn hN (by show N * 8 ≤ _; omega) (by rw [hroom.2.2.1]; exact hu1) (by rw [hroom.2.2.2]; exact hv1) hd (fun q cA H1 hK hP hD hS1 => ?_)
  intro T hT X
  have hz := X.heapSize
  have hq : q < H1.size := (hP ws.length (q, .inl (cA, (N, .inr (.inr (.inr (.inl (fun _ => 0))))))) (by rw [List.getElem?_append_right (Nat.le_refl _), Nat.sub_self]; rfl)).lt
  have hqa : q = a_ad V hl.length := a_new (h := hl) hH.1 (by omega) hD (by rw [hT] at hz; dsimp only at hN1; omega)
  subst hqa
  exact kk V p l e R s m args below meth c9 H1 locs Gl _ _ lsC hC hR (fun z => by dsimp only at hN1 ⊢; rw [List.length_append]; show _ = _ + (_ + 1) ∧ _ + 1 ≤ 5000; omega) ⟨hH.1.pushA cA 3 (N, .inr (.inr (.inr (.inl (fun _ => 0))))), hP, hD, hK⟩ hS1 hu1 hv1 hL T hT X
theorem r_anew {hl : List a_E} {n : Int32} {ix : Nat} (N : Nat) (hd : decode (i_cc I) pc = .ok (.anewarray ix, 3)) (hw1 : Cond.classLink (i_own I) ix RX5 ∈ a_GT) (hw : Cond.arrayOver (.object RX5) ∈ a_GN) (hn : ¬ n < 0) (hN : n.toNatClampNeg = N) (hb : N ≤ 65536) (hln : hl.length < 4999) (hu1 : uc + 1 ≤ i_mc I) (hv1 : us + N ≤ i_ms I)
    (kk : AW I (pc + 3) ls (.ref hl.length :: st) (true, hl ++ [.inl (4, N, .inr (.inr (.inr (.inr (fun _ => none)))))]) (uc + 1) (us + N) Q) : AW I pc ls (.int n :: st) (true, hl) uc us Q := by
  intro V p l e R s m args below meth c9 H locs Gl ws tys lsC hC hR hNN hH hS hu hv2 hL
  have hroom := hC.2.2.2.2.2.2.2.1
  have hB := hC.2.2.2.2.2.2.2.2.2.2.2.1
  have hN1 := (hNN rfl).1
  have hAO : va_AO RX5 s := hC.2.2.2.2.2.2.2.2.2.2.1.2.2.2.2.2.2.2.2.2 _ hw
  refine va_newq (C := RX5) hC.1 hC.2.1 hC.2.2.2.1 (hC.2.2.2.2.1 _ hw1) hAO hH.2.2.2 hH.2.1 hH.2.2.1 hS (fun q hq => by unfold a_A; omega) hn hN (by omega) (by rw [hroom.2.2.1]; exact hu1) (by rw [hroom.2.2.2]; exact hv1) hd (fun q cA H1 hK hP hD hS1 => ?_)
  intro T hT X
  have hz := X.heapSize
  have hq : q < H1.size := (hP ws.length (q, .inl (cA, (N, .inr (.inr (.inr (.inr (fun _ => none))))))) (by rw [List.getElem?_append_right (Nat.le_refl _), Nat.sub_self]; rfl)).lt
  have hqa : q = a_ad V hl.length := a_new (h := hl) hH.1 (by omega) hD (by rw [hT] at hz; dsimp only at hN1; omega)
  subst hqa
  exact kk V p l e R s m args below meth c9 H1 locs Gl _ _ lsC hC hR (fun z => by dsimp only at hN1 ⊢; rw [List.length_append]; show _ = _ + (_ + 1) ∧ _ + 1 ≤ 5000; omega) ⟨hH.1.pushA cA 4 (N, .inr (.inr (.inr (.inr (fun _ => none))))), hP, hD, hK⟩ hS1 hu1 hv1 hL T hT X
def a_AC (own : String) (ix : Nat) : Prop := Cond.methodLink own ix arraycopyName ∈ a_GT ∧ Cond.native arraycopyName ∈ a_GT ∧ Cond.static arraycopyName ∈ a_GT ∧ Cond.initialized "java/lang/System" ∈ a_GT
theorem r_copyi {ix a0 a n0 n1 : Nat} {f g : Nat → Int32} {sp dp n : Int32} (hd : decode (i_cc I) pc = .ok (.invokestatic ix, 3)) (hw : a_AC (i_own I) ix) (h0 : h.2[a0]? = some (.inl (0, n0, .inl f))) (h1 : h.2[a]? = some (.inl (0, n1, .inl g)))
    (g1 : ¬ sp < 0) (g2 : ¬ dp < 0) (g3 : ¬ n < 0) (g4 : sp.toNatClampNeg + n.toNatClampNeg ≤ n0) (g5 : dp.toNatClampNeg + n.toNatClampNeg ≤ n1) (hdp : 1 ≤ i_d I) (hst : (st.map fun v => v.category).sum ≤ 8)
    (kk : AW I (pc + 3) ls st (h.1, h.2.set a (.inl (0, n1, .inl (va_cpy f g sp.toNatClampNeg dp.toNatClampNeg n.toNatClampNeg)))) uc us Q) : AW I pc ls (.int n :: .int dp :: .ref a :: .int sp :: .ref a0 :: st) h uc us Q := by
  intro V p l e R s m args below meth c9 H locs Gl ws tys lsC hC hR hN hH hS hu hv2 hL
  obtain ⟨w1, w2, w3, w4⟩ := hw
  have hroom := hC.2.2.2.2.2.2.2.1
  obtain ⟨cA, t0, e1, e2⟩ := hH.1.arrAt h0
  obtain ⟨cB, t1, e3, e4⟩ := hH.1.arrAt h1
  have hcat : ((st.map (a_cv V)).map fun v => v.category).sum = (st.map fun v => v.category).sum := by rw [List.map_map]; congr 1; exact List.map_congr_left (fun v _ => a_cv_cat V v)
  have hnw : nativeFrameWords "java/lang/System" "arraycopy" 5 ≤ 30 := by decide +kernel
  refine va_copyi (ty := .int) hC.1 hC.2.1 (by rw [hC.2.2.1, hL.1]) hC.2.2.2.1 (hC.2.2.2.2.1 _ w1) (hC.2.2.2.2.1 _ w2) (hC.2.2.2.2.1 _ w3) (hC.2.2.2.2.1 _ w4) hH.2.2.2 hH.2.1 hH.2.2.1 hS a0 a t0 t1 e1 e3 e2 e4 rfl g1 g2 g3 g4 g5 (fun i _ => rfl) (by omega) (by rw [hcat]; omega) hd (fun H1 locs1 hP hD hS1 => ?_)
  exact kk V p l e R s m args below meth c9 H1 locs1 Gl _ tys lsC hC hR (fun z => by rw [List.length_set]; exact hN z) ⟨hH.1.setA h1 e4 _, hP, hD, hH.2.2.2⟩ hS1 hu hv2 hL
theorem r_mmax {ix : Nat} {x y : Int32} (hd : decode (i_cc I) pc = .ok (.invokestatic ix, 3)) (w1 : Cond.methodLink (i_own I) ix Lib.Math.max.name ∈ a_GT) (w2 : Cond.static Lib.Math.max.name ∈ a_GT) (w3 : Cond.initialized "java/lang/Math" ∈ a_GT) (w4 : Cond.code Lib.Math.max.name Lib.Math.max.code 2 (some .int) ∈ a_GT) (hdp : 1 ≤ i_d I) (hst : (st.map fun v => v.category).sum ≤ 8)
    (kk : AW I (pc + 3) ls (.int (if x < y then y else x) :: st) h uc us Q) : AW I pc ls (.int y :: .int x :: st) h uc us Q := by
  intro V p l e R s m args below meth c9 H locs Gl ws tys lsC hC hR hN hH hS hu hv2 hL
  have hroom := hC.2.2.2.2.2.2.2.1
  have hcat : ((st.map (a_cv V)).map fun v => v.category).sum = (st.map fun v => v.category).sum := by rw [List.map_map]; congr 1; exact List.map_congr_left (fun v _ => a_cv_cat V v)
  exact va_mmax hC.1 hC.2.1 (by rw [hC.2.2.1, hL.1]) hC.2.2.2.1 (hC.2.2.2.2.1 _ w1) (hC.2.2.2.2.1 _ w2) (hC.2.2.2.2.1 _ w3) (hC.2.2.2.2.1 _ w4) (by omega) (by rw [hcat]; omega) (by omega) (by omega) hd (kk V p l e R s m args below meth c9 H locs Gl ws tys lsC hC hR hN hH hS hu hv2 hL)
theorem r_mmin {ix : Nat} {x y : Int32} (hd : decode (i_cc I) pc = .ok (.invokestatic ix, 3)) (w1 : Cond.methodLink (i_own I) ix Lib.Math.min.name ∈ a_GT) (w2 : Cond.static Lib.Math.min.name ∈ a_GT) (w3 : Cond.initialized "java/lang/Math" ∈ a_GT) (w4 : Cond.code Lib.Math.min.name Lib.Math.min.code 2 (some .int) ∈ a_GT) (hdp : 1 ≤ i_d I) (hst : (st.map fun v => v.category).sum ≤ 8)
    (kk : AW I (pc + 3) ls (.int (if y < x then y else x) :: st) h uc us Q) : AW I pc ls (.int y :: .int x :: st) h uc us Q := by
  intro V p l e R s m args below meth c9 H locs Gl ws tys lsC hC hR hN hH hS hu hv2 hL
  have hroom := hC.2.2.2.2.2.2.2.1
  have hcat : ((st.map (a_cv V)).map fun v => v.category).sum = (st.map fun v => v.category).sum := by rw [List.map_map]; congr 1; exact List.map_congr_left (fun v _ => a_cv_cat V v)
  exact va_mmin hC.1 hC.2.1 (by rw [hC.2.2.1, hL.1]) hC.2.2.2.1 (hC.2.2.2.2.1 _ w1) (hC.2.2.2.2.1 _ w2) (hC.2.2.2.2.1 _ w3) (hC.2.2.2.2.1 _ w4) (by omega) (by rw [hcat]; omega) (by omega) (by omega) hd (kk V p l e R s m args below meth c9 H locs Gl ws tys lsC hC hR hN hH hS hu hv2 hL)
theorem r_mabs {ix : Nat} {x : Int32} (hd : decode (i_cc I) pc = .ok (.invokestatic ix, 3)) (w1 : Cond.methodLink (i_own I) ix Lib.Math.abs.name ∈ a_GT) (w2 : Cond.static Lib.Math.abs.name ∈ a_GT) (w3 : Cond.initialized "java/lang/Math" ∈ a_GT) (w4 : Cond.code Lib.Math.abs.name Lib.Math.abs.code 1 (some .int) ∈ a_GT) (hdp : 1 ≤ i_d I) (hst : (st.map fun v => v.category).sum ≤ 8)
    (kk : AW I (pc + 3) ls (.int (if 0 ≤ x then x else 0 - x) :: st) h uc us Q) : AW I pc ls (.int x :: st) h uc us Q := by
  intro V p l e R s m args below meth c9 H locs Gl ws tys lsC hC hR hN hH hS hu hv2 hL
  have hroom := hC.2.2.2.2.2.2.2.1
  have hcat : ((st.map (a_cv V)).map fun v => v.category).sum = (st.map fun v => v.category).sum := by rw [List.map_map]; congr 1; exact List.map_congr_left (fun v _ => a_cv_cat V v)
  exact va_mabs hC.1 hC.2.1 (by rw [hC.2.2.1, hL.1]) hC.2.2.2.1 (hC.2.2.2.2.1 _ w1) (hC.2.2.2.2.1 _ w2) (hC.2.2.2.2.1 _ w3) (hC.2.2.2.2.1 _ w4) (by omega) (by rw [hcat]; omega) (by omega) (by omega) hd (kk V p l e R s m args below meth c9 H locs Gl ws tys lsC hC hR hN hH hS hu hv2 hL)
end AH2
end
section
section AC
theorem a_cat (V : a_V) (st : List Value) : ((st.map (a_cv V)).map fun v => v.category).sum = (st.map fun v => v.category).sum := by
  rw [List.map_map]; congr 1; exact List.map_congr_left (fun v _ => a_cv_cat V v)
theorem a_L.stN {V : a_V} {lsC : Array Slot} {nL i : Nat} {ls : List Value} {v : Value} (hk : ∀ j w, ls[j]? = some w → j + 1 = i → w.category = 1)
    (h : lv_has lsC nL ((i, v) :: (a_ll V ls).filter (fun q => !(q.1 == i) && !(q.1 + 1 == i && q.2.category == 2)))) : a_L V lsC nL (ls.set i .null) := by
  refine ⟨h.1, h.2.1, fun j w hj hw => ?_⟩
  by_cases hji : j = i
  · subst hji
    have hl : j < ls.length := by have := (List.getElem?_eq_some_iff.mp hj).1; simpa using this
    rw [List.getElem?_set_self hl] at hj
    cases hj
    exact absurd rfl hw
  · rw [List.getElem?_set_ne (Ne.symm hji)] at hj
    refine h.2.2 (j, a_cv V w) (List.mem_cons_of_mem _ (List.mem_filter.mpr ⟨a_ll_mem.mpr ⟨w, hj, hw, rfl⟩, ?_⟩))
    by_cases h2 : j + 1 = i
    · have := hk j w hj h2
      simp [hji, a_cv_cat, this]
    · simp [hji, h2]
/-- a handler that takes E at pc and lays it away -/
def a_hd (I : a_I) (pc : Nat) (E : String) (tgt k nx : Nat) : Prop :=
  E ∈ a_ex ∧ (∃ (pre : List ExceptionTableEntry) (x : ExceptionTableEntry) (suf : List ExceptionTableEntry), tableOf (i_hh I) = pre ++ x :: suf ∧ x.handlerPc = tgt ∧ covers x pc = true ∧ x.catchType ≠ 0 ∧ Cond.classLink (i_own I) x.catchType E ∈ a_GT ∧ Cond.castable E E ∈ a_GN ∧
    ∀ z ∈ pre, z.catchType ≠ 0 ∧ ∃ nm ∈ a_ex, E ≠ nm ∧ Cond.classLink (i_own I) z.catchType nm ∈ a_GT) ∧
  ((∃ f : Fin 4, decode (i_cc I) tgt = .ok (.astore_n f, 1) ∧ (f : Nat) = k ∧ nx = tgt + 1) ∨ (decode (i_cc I) tgt = .ok (.astore k, 2) ∧ nx = tgt + 2)) ∧ k < i_nL I
theorem a_Pre.of {V : a_V} {h : a_H} {s U : State} {H : Heap} {locs : List Loc} {ws : va_W} {tys : List (ClassId × FieldType)} (hX : a_X V s s.heap) (hB : V.2.1 ≤ s.heap.size) (hH : a_HP V h.2 H s ws tys) (hS : va_S (a_A V) s.heap H locs) (hcl : a_cl V h H.size) (hU : U.heap = H) (hW : s.WarmedH U.vm) : a_Pre V h U := by
  refine ⟨⟨ws, tys, ?_⟩, ?_, ?_, ?_⟩
  · rw [hU]; exact hH.moved hW.alike
  · rw [hU]; exact (a_X.moved hW hX).kept hB hS.2.1
  · rw [hU]; exact hcl
  · rw [hU]; exact Nat.le_trans hB hS.1
theorem a_clH {V : a_V} {h : a_H} {H : Heap} {s : State} {ws : va_W} {tys : List (ClassId × FieldType)} {n : Nat} (hH : a_HP V h.2 H s ws tys) (hN : a_cl V h n) (hz : H.size ≤ n) (hB : V.2.1 ≤ H.size) : a_cl V h H.size := by
  intro z
  obtain ⟨h1, h2⟩ := hN z
  refine ⟨?_, h2⟩
  by_cases h0 : h.2.length = 0
  · omega
  · obtain ⟨e, he⟩ := hH.1.adAt (c := h.2.length - 1) (by omega)
    have hlt := (hH.2.1 _ _ he).lt
    have ha : a_ad V (h.2.length - 1) = V.2.1 + (h.2.length - 1) := if_pos (by omega)
    rw [ha] at hlt
    omega
/-- behind a call -/
theorem a_after {V : a_V} {I : a_I} {p : Program} {l : Launch} {e : Env} {R : Room} {s : State} {m : MethodId} {args : Array Value} {below : List Frame} {meth : Method} {c9 : Code} {H : Heap} {locs : List Loc} {Gl : State → Prop} {ws : va_W} {tys : List (ClassId × FieldType)} {lsC : Array Slot} {pc uc us mc ms : Nat} {ls st : List Value} {h : a_H} {Q Q' : a_Q} {st0 : List Value} {a : Array Value}
    (hC : a_CT V I p l R s m args meth c9) (hR : a_RT V I p l e R s m args below meth c9 Gl Q) (hN : a_cl V h (s.heap.size + uc)) (hH : a_HP V h.2 H s ws tys) (hS : va_S (a_A V) s.heap H locs) (hL : a_L V lsC (i_nL I) ls) (hu1 : uc + mc ≤ i_mc I) (hv1 : us + ms ≤ i_ms I)
    (hrun : a_cl V h H.size → vx_Run p l e R s m args below meth c9 H locs uc us mc ms (F0 m pc lsC st0) (st.map (a_cv V)) (a_Qc V Q' a) (a_XC V Q') (a_A V))
    (k : ∀ v h', Q' (.inl v) h' → (h'.1 = true → h.1 = true ∧ h'.2.length = h.2.length + mc ∧ h'.2.length ≤ 5000) ∧ AW I (pc + 3) ls (v.toList ++ st) h' (uc + mc) (us + ms) Q)
    (kx : ∀ E h', Q' (.inr E) h' → (i_hh I = [] ∧ Q (.inr E) h') ∨ (∃ tgt k nx, a_hd I pc E tgt k nx ∧ h'.1 = false ∧ (∀ j w, ls[j]? = some w → j + 1 = k → w.category = 1) ∧ AW I nx (ls.set k .null) [] h' (uc + mc) (us + ms) Q)) :
    W p l e R s m args below meth c9 H locs uc us Gl (F0 m pc lsC st0) := by
  intro T hT X
  have hz := X.heapSize
  rw [hT] at hz
  have hB := hC.2.2.2.2.2.2.2.2.2.2.2.1
  have hB2 : V.2.1 ≤ H.size := Nat.le_trans hB hS.1
  rcases hrun (a_clH hH hN hz hB2) T hT X with ⟨v, st1, t, T', L, h0, X', hLx, e1, e2, hq, hgo⟩ | ⟨q, st1, t, T', L, E, ce, h0, X', hLx, e1, e2, hx, hce, hcv, hcl, hgo⟩
  · obtain ⟨⟨v0, h', hv, hQ, ws', tys', hP'⟩, hF⟩ := hq
    obtain ⟨g1, g2, g3⟩ := vx_keep h0 e1 hS (fun q _ z => z) (fun q z => z) hLx hF
    cases hv
    have hal : t.vm.Alike s.vm := by rw [← e2]; exact X'.warmed.alike.symm
    obtain ⟨k1, k2⟩ := k v0 h' hQ
    have hw := k2 V p l e R s m args below meth c9 T'.heap (locs ++ L) Gl ws' tys' lsC hC hR (fun z => by
        obtain ⟨z1, z2, z3⟩ := k1 z
        have := (hN z1).1
        exact ⟨by omega, z3⟩) (by rw [e1]; exact hP'.moved hal) g3 hu1 hv1 hL
    obtain ⟨t2, a1, b1⟩ := hw T' rfl X'
    refine ⟨t2, hgo t2 ?_, b1⟩
    cases v0 <;> exact a1
  · obtain ⟨⟨h', hQ, ws', tys', hP'⟩, hF⟩ := hx
    obtain ⟨g1, g2, g3⟩ := vx_keep h0 e1 hS (fun q _ z => z) (fun q z => z) hLx hF
    have hal : t.vm.Alike s.vm := by rw [← e2]; exact X'.warmed.alike.symm
    have hPs : a_HP V h'.2 T'.heap s ws' tys' := by rw [e1]; exact hP'.moved hal
    rcases kx E h' hQ with ⟨hh, hq2⟩ | ⟨tgt, kk, nx, ⟨hE, ⟨pre, x, suf, hs1, hs2, hs3, hs4, hs5, hs6, hs7⟩, hd, hkn⟩, hcln, hcat, hw⟩
    · obtain ⟨t2, a1, b1⟩ := vx_widen hu1 hv1 (hR.2.1 hh T'.heap (locs ++ L) h' ws' tys' pc lsC (st.map (a_cv V)) E ce q hPs g3 hq2 (by rw [e1]; exact hce) hcv hcl) T' rfl X'
      exact ⟨t2, hgo.trans a1, b1⟩
    · have hex := hC.2.2.2.2.2.2.2.2.2.2.1.2.2.2.2.2.2.2.2.1
      have hca : vx_W p l e R s m args below meth c9 T'.heap (locs ++ L) (uc + mc) (us + ms) Gl (F0 m pc lsC (st.map (a_cv V))) q := by
        refine vx_catch hC.2.2.2.1 pre x suf (by rw [hC.2.2.2.2.2.2.2.2.1]; exact hs1) (fun z hz => ?_) hs3 hs4 (hC.2.2.2.2.1 _ hs5) (va_Nw.use rfl (hC.2.2.2.2.2.2.2.2.2.2.1.2.2.2.2.2.2.2.2.2 _ hs6)) (by rw [e1]; exact hce) hcv hcl ?_
        · obtain ⟨z1, nm, hnm, z2, z3⟩ := hs7 z hz
          exact Or.inr ⟨z1, nm, hC.2.2.2.2.1 _ z3, hex E hE nm hnm z2⟩
        · rw [hs2]
          rcases hd with ⟨f, hd, hfk, rfl⟩ | ⟨hd, rfl⟩
          · subst hfk
            refine lv_astore_n hC.1 hC.2.1 hd rfl hL.has hkn rfl (fun ls2 h2 => ?_)
            exact hw V p l e R s m args below meth c9 T'.heap (locs ++ L) Gl ws' tys' ls2 hC hR (fun z => by rw [hcln] at z; cases z) hPs g3 hu1 hv1 (a_L.stN hcat h2)
          · refine lv_astore hC.1 hC.2.1 hd hL.has hkn rfl (fun ls2 h2 => ?_)
            exact hw V p l e R s m args below meth c9 T'.heap (locs ++ L) Gl ws' tys' ls2 hC hR (fun z => by rw [hcln] at z; cases z) hPs g3 hu1 hv1 (a_L.stN hcat h2)
      obtain ⟨t2, a1, b1⟩ := hca T' rfl X'
      exact ⟨t2, hgo.trans a1, b1⟩
theorem a_good {l : List Cond} (h : ∀ w ∈ l, w ∈ a_GT) : GoodIn a_GT l := fun w hw => ⟨h w hw, good_of_word (a_GT_good w (h w hw))⟩
end AC
end
section
section AD1
variable {I : a_I} {pc uc us : Nat} {ls st : List Value} {h : a_H} {Q : a_Q}
theorem r_ret {v : Value} (hd : a_rd (i_cc I) pc (some v)) (hok : a_ok (i_ret I) (some v)) (hq : Q (.inl (some v)) h) : AW I pc ls [v] h uc us Q := by
  intro V p l e R s m args below meth c9 H locs Gl ws tys lsC hC hR hN hH hS hu hv2 hL
  exact W.widen hu hv2 (hR.1 H locs h ws tys pc lsC (some v) hH hS hq hd hok)
theorem r_vret (hd : decode (i_cc I) pc = .ok (.return_, 1)) (hok : i_ret I = none) (hq : Q (.inl none) h) : AW I pc ls [] h uc us Q := by
  intro V p l e R s m args below meth c9 H locs Gl ws tys lsC hC hR hN hH hS hu hv2 hL
  exact W.widen hu hv2 (hR.1 H locs h ws tys pc lsC none hH hS hq hd hok)
theorem r_iret {x : Int32} (hd : decode (i_cc I) pc = .ok (.ireturn, 1)) (hok : i_ret I = some .int) (hq : Q (.inl (some (.int x))) h) : AW I pc ls [.int x] h uc us Q := r_ret hd ⟨.int, hok, rfl⟩ hq
theorem r_lret {x : Int64} (hd : decode (i_cc I) pc = .ok (.lreturn, 1)) (hok : i_ret I = some .long) (hq : Q (.inl (some (.long x))) h) : AW I pc ls [.long x] h uc us Q := r_ret hd hok hq
theorem r_fret {x : UInt32} (hd : decode (i_cc I) pc = .ok (.freturn, 1)) (hok : i_ret I = some .float) (hq : Q (.inl (some (.float x))) h) : AW I pc ls [.float x] h uc us Q := r_ret hd hok hq
theorem r_zret (b : Bool) {x : Int32} (hd : decode (i_cc I) pc = .ok (.ireturn, 1)) (hok : i_ret I = some .boolean) (hx : x = if b then 1 else 0) (hq : Q (.inl (some (.int (if b then 1 else 0)))) h) : AW I pc ls [.int x] h uc us Q := by
  subst hx
  refine r_ret hd ⟨.boolean, hok, ?_⟩ hq
  cases b <;> decide
theorem r_throw {E : String} (hth : a_th I pc E) (hh : i_hh I = []) (hd : 6 ≤ i_d I) (hst : (st.map fun v => v.category).sum ≤ 200) (hu1 : uc + 1 ≤ i_mc I) (hv1 : us + 6 ≤ i_ms I) (hq : Q (.inr E) (false, h.2)) : AW I pc ls st h uc us Q := by
  intro V p l e R s m args below meth c9 H locs Gl ws tys lsC hC hR hN hH hS hu hv2 hL
  exact hR.2.2 hh H locs h ws tys pc lsC (st.map (a_cv V)) E uc us hH hS hq hth hd (by rw [a_cat]; exact hst) hu1 hv1 (by rw [hC.2.2.1]; exact hL.1)
/-- from a clean heap to one of which nothing is said -/
theorem r_dirty {hl : List a_E} (k : AW I pc ls st (false, hl) uc us Q) : AW I pc ls st (true, hl) uc us Q := by
  intro V p l e R s m args below meth c9 H locs Gl ws tys lsC hC hR hN hH hS hu hv2 hL
  exact k V p l e R s m args below meth c9 H locs Gl ws tys lsC hC hR (fun z => by cases z) hH hS hu hv2 hL
theorem r_wide {uc' us' : Nat} (h1 : uc ≤ uc') (h2 : us ≤ us') (h3 : uc' ≤ i_mc I) (h4 : us' ≤ i_ms I) {hl : List a_E} (k : AW I pc ls st (false, hl) uc' us' Q) : AW I pc ls st (false, hl) uc us Q := by
  intro V p l e R s m args below meth c9 H locs Gl ws tys lsC hC hR hN hH hS hu hv2 hL
  exact W.widen h1 h2 (k V p l e R s m args below meth c9 H locs Gl ws tys lsC hC hR (fun z => by cases z) hH hS h3 h4 hL)
theorem r_post {Q1 : a_Q} (hq : ∀ o h', Q1 o h' → Q o h') (k : AW I pc ls st h uc us Q1) : AW I pc ls st h uc us Q := by
  intro V p l e R s m args below meth c9 H locs Gl ws tys lsC hC hR hN hH hS hu hv2 hL
  exact k V p l e R s m args below meth c9 H locs Gl ws tys lsC hC ⟨fun H locs h ws tys pc ls v a1 a2 a3 => hR.1 H locs h ws tys pc ls v a1 a2 (hq _ _ a3), fun z H locs h ws tys pc ls rest E ce q a1 a2 a3 => hR.2.1 z H locs h ws tys pc ls rest E ce q a1 a2 (hq _ _ a3),
    fun z H locs h ws tys pc ls rest E uc us a1 a2 a3 => hR.2.2 z H locs h ws tys pc ls rest E uc us a1 a2 (hq _ _ a3)⟩ hN hH hS hu hv2 hL
end AD1
theorem a_atS_ok : ∀ E ∈ a_ex, Bundle.fit E = true := by decide +kernel
theorem a_atS_nm : ∀ n ∈ ["java/lang/RuntimeException", "java/lang/Exception"], Bundle.fit n = true := by decide +kernel
theorem a_tb_ot {w : Cond} (h : w.onTables = true) : vx_ot w = true := by
  unfold vx_ot
  rw [h, Bool.true_or]
theorem a_good_ot {w : Cond} (h : goodWord w = true) : vx_ot w = true := by
  unfold vx_ot
  rw [h, Bool.or_true]
set_option maxHeartbeats 4000000 in
/-- a body's walk gives the contract -/
theorem a_met {y : MethodName} {I : a_I} {av : List Value} {h : a_H} {Q : a_Q} (hy : plainName y.cls = true) (hown : i_own I = y.cls) (hnh : i_hh I = []) (hlen : av.length ≤ i_nL I) (hcat : ∀ v ∈ av, v.category = 1) (hini : i_ini I = true → y.name = "<init>") (hxs : i_xs I = none)
    (k : AW I 0 (av ++ List.replicate (i_nL I - av.length) .null) [] h 0 0 Q) : AM y I av h Q := by
  intro l V hl
  have hcd : a_cd y I = Cond.code y (i_cc I) (i_nL I) (i_ret I) := if_pos hnh
  refine vx_ofW (cc := i_cc I) (maxL := i_nL I) (ret := i_ret I) (ws' := a_GT) hy (by rw [hcd]) ?_
  intro p e s m args below meth c s₁ B hml hnox hPre
  obtain ⟨rfl, ⟨ws, tys, hP⟩, hX, hcl, hB⟩ := hPre
  have hts := atoms_spec (ws := a_cd y I :: a_GT) B.pre
  have hno : c.exceptionTable.toList = [] := List.eq_nil_iff_forall_not_mem.mpr hnox
  have hlocks := B.notSynchronized
  have hsl : lg_sl (av.map (a_cv V)) = (av.map (a_cv V)).map Slot.val := by
    unfold lg_sl
    rw [List.flatMap_map, List.map_map]
    have : ∀ (l : List Value), (∀ v ∈ l, v.category = 1) → l.flatMap (fun v => if (a_cv V v).category = 2 then [Slot.val (a_cv V v), Slot.second] else [Slot.val (a_cv V v)]) = l.map (Slot.val ∘ a_cv V) := by
      intro l
      induction l with
      | nil => intro _; rfl
      | cons v t ih =>
        intro hv
        have h1 := hv v List.mem_cons_self
        rw [List.flatMap_cons, ih (fun w hw => hv w (List.mem_cons_of_mem _ hw)), a_cv_cat, h1]
        rfl
    exact this av hcat
  have hentry := lv_entry (av.map (a_cv V)) (n := i_nL I) (by rw [hsl]; simpa using hlen)
  rw [lg_entry_eq]
  have hargs : ∀ (i : Nat) (v : Value), av[i]? = some v → ((lg_sl (av.map (a_cv V)) ++ List.replicate (i_nL I - (lg_sl (av.map (a_cv V))).length) Slot.unset).toArray)[i]? = some (.val (a_cv V v)) := by
    intro i v hv
    have hi := (List.getElem?_eq_some_iff.mp hv).1
    rw [hsl, List.getElem?_toArray, List.getElem?_append_left (by simpa using hi), List.getElem?_map, List.getElem?_map, hv]
    rfl
  generalize (lg_sl (av.map (a_cv V)) ++ List.replicate (i_nL I - (lg_sl (av.map (a_cv V))).length) Slot.unset).toArray = lsC at hentry hargs ⊢
  have hpost : ∀ (H : Heap) (locs : List Loc) (h : a_H) (ws : va_W) (tys : List (ClassId × FieldType)) (v : Option Value), a_HP V h.2 H s ws tys → va_S (a_A V) s.heap H locs → Q (.inl v) h → ∀ t : State, t.heap = H → s.WarmedH t.vm → a_Qc V Q (av.map (a_cv V)).toArray s (.returned (v.map (a_cv V))) t :=
    fun H locs h ws tys v a1 a2 a3 t ht hW => ⟨⟨v, h, rfl, a3, ws, tys, by rw [ht]; exact a1.moved hW.alike⟩, a2.F ht⟩
  refine k V p l e _ s m _ below meth c s.heap [] _ ws tys lsC ⟨B.exec, B.bytes, hml, by rw [hown]; exact findClass_of_methodNamed B.named, fun w hw => hts w (List.mem_cons_of_mem _ hw), hlocks, hl, ⟨Nat.le_refl _, Nat.le_refl _, rfl, rfl⟩, by rw [hno, hnh]; rfl,
    fun z => (name_of_methodNamed B.named B.method).1.trans (hini z), hX, hB, fun q hq => by rw [hxs] at hq; cases hq⟩ ⟨?_, ?_, ?_⟩ (fun z => hcl z) hP va_S.rf (Nat.zero_le _) (Nat.zero_le _) ⟨hentry.1, hentry.2.1, ?_⟩
  · intro H locs h ws tys pc ls v a1 a2 a3 a4 a5
    have hq := hpost H locs h ws tys v a1 a2 a3
    match v, a4, a5, hq with
    | none, a4, a5, hq => exact vx_ret (W.vret B.exec B.bytes (B.returns.trans a5) hq a2.2.2 a4 hlocks)
    | some (.int x), a4, a5, hq => obtain ⟨ty, b1, b2⟩ := a5; exact vx_ret (W.zret B.exec B.bytes (B.returns.trans b1) b2 hq a2.2.2 a4 hlocks)
    | some (.long x), a4, a5, hq => exact vx_ret (W.lret B.exec B.bytes (B.returns.trans a5) hq a2.2.2 a4 hlocks)
    | some (.float x), a4, a5, hq => exact vx_ret (W.fret B.exec B.bytes (B.returns.trans a5) hq a2.2.2 a4 hlocks)
  · intro _ H locs h ws tys pc ls rest E ce q a1 a2 a3 a4 a5 a6
    exact vx_out (by rw [hno]; intro x hx; cases hx) hlocks a4 a5 a6 (fun t ht hal => ⟨⟨h, a3, ws, tys, by rw [ht]; exact a1.moved hal⟩, a2.F ht⟩) a2.2.2 (Nat.le_refl _) (Nat.le_refl _)
  · intro _ H locs h ws tys pc ls rest E uc us a1 a2 a3 a4 a5 a6 a7 a8 a9
    obtain ⟨ik, is, ic, tx, hE, w1, w2, w3, w4, d0, d3, dd⟩ := a4
    obtain ⟨sa, hsa⟩ := hX.2.2.2.2.1 _ _ _ w3
    have hgood : ∀ w ∈ Cond.classLink (i_own I) ik E :: Cond.initialized E :: vx_atS (i_own I) ic E ["java/lang/RuntimeException", "java/lang/Exception"], vx_ot w = true := by
      intro w hw
      rcases List.mem_cons.mp hw with rfl | hw
      · exact a_good_ot (a_GT_good _ w1)
      · rcases List.mem_cons.mp hw with rfl | hw
        · exact a_good_ot (a_GT_good _ w2)
        · rcases w4 w hw with g | g
          · exact a_good_ot (a_GT_good _ g)
          · exact a_tb_ot g.2
    have hat : ∀ w ∈ vx_atS (i_own I) ic E ["java/lang/RuntimeException", "java/lang/Exception"], w.before (av.map (a_cv V)).toArray s = true := by
      intro w hw
      rcases w4 w hw with g | g
      · exact hts w (List.mem_cons_of_mem _ g)
      · have g2 := hX.2.2.2.2.2.2.2.2.2 w g.1
        have g3 := a_tb_ot g.2
        exact vx_ot_at (State.WarmedH.refl s) rfl g3 g2
    have hx : ∀ t : State, s.vm.Alike t.vm → H.size ≤ t.heap.size → (∀ q : Nat, q < H.size → t.heap[q]? = H[q]?) → a_XC V Q E s t := by
      intro t hal hz hk
      refine ⟨⟨(false, h.2), a3, ws, tys, a1.1, a1.2.1.kept (fun j q hq => hk _ (a1.2.1 j q hq).lt), a1.2.2.1, va_K.moved hal a1.2.2.2⟩, Nat.le_trans a2.1 hz, fun q g1 g2 => ?_⟩
      rw [hk q (Nat.lt_of_lt_of_le g1 a2.1)]
      exact a2.2.1 q g1 g2
    rcases dd with ⟨d4, d6, d9⟩ | ⟨d4, d6, d9⟩
    · exact vx_throwS B.exec B.bytes hl (by rw [hown]; exact findClass_of_methodNamed B.named) (a_atS_ok E hE) a_atS_nm (hts _ (List.mem_cons_of_mem _ w1)) (hts _ (List.mem_cons_of_mem _ w2)) hsa hat hgood hX.2.2.2.2.2.1 hX.2.2.2.2.2.2.1 a2 a9 d0 d3 d4 d6 d9 (by rw [hno]; intro x hx; cases hx)
        (by show 2 + 3 < i_d I; omega) (by show _ + (13 * (2 + 1) + 43) ≤ 60 * i_d I; omega) a7 a8 hlocks hx a2.2.2 a7 a8
    · exact vx_throwSW B.exec B.bytes hl (by rw [hown]; exact findClass_of_methodNamed B.named) (a_atS_ok E hE) a_atS_nm (hts _ (List.mem_cons_of_mem _ w1)) (hts _ (List.mem_cons_of_mem _ w2)) hsa hat hgood hX.2.2.2.2.2.1 hX.2.2.2.2.2.2.1 a2 a9 d0 d3 d4 d6 d9 (by rw [hno]; intro x hx; cases hx)
        (by show 2 + 3 < i_d I; omega) (by show _ + (13 * (2 + 1) + 43) ≤ 60 * i_d I; omega) a7 a8 hlocks hx a2.2.2 a7 a8
  · intro i v hi hv
    by_cases hil : i < av.length
    · rw [List.getElem?_append_left hil] at hi
      exact hargs i v hi
    · rw [List.getElem?_append_right (by omega)] at hi
      exact absurd (List.eq_of_mem_replicate (List.mem_of_getElem? hi)) hv
end
section
/-! ===== BEGIN a constructor that throws (launches without stack traces) ===== -/
section VXIA
variable {p : Program} {l : Launch} {e : Env} {R : Room} {s : State} {m : MethodId} {args : Array Value} {below : List Frame} {meth : Method} {c : Code} {T : State} {locs : List Loc} {cells slots : Nat}
theorem vx_callI (X : Stand p l e R s m args below meth c T locs cells slots) (hexec : p.tables.exec = Jvm.exec) {own : String} {index : Nat} {y : MethodName} {bytes : ByteArray} {maxL : Nat}
    (hown : s.vm.findClass own = some m.cls) (hy1 : y.name = "<init>") (hlink : (Cond.methodLink own index y).before args s = true) (hinst : (Cond.instanceMethod y).before args s = true)
    (hcode : (Cond.code y bytes maxL none).before args s = true) (hy : y.cls ≠ "java/lang/invoke/MethodHandle" ∧ y.cls ≠ "java/lang/invoke/VarHandle")
    {W9 : Nat} {Pre : Pt → Array Value → Prop} {Post : Pt → Array Value → Option Value → Pt → Prop} {PostX : Pt → Array Value → Addr → Pt → Prop} (hK : vx_Back l R p e below s args y 3 W9 Pre Post PostX)
    {g : JFrame} (hg : g.method = m) (hsize : g.locals.size = c.maxLocals) {a : Addr} {argsL rest : List Value} (hlen : ∀ sig, parseMethodDescriptor y.desc = some sig → argsL.length = sig.parameters.length)
    (hstack : g.stack = argsL.reverse ++ .ref a :: rest) (hW : 2 * g.monitorRoom + (rest.map fun v => v.category).sum ≤ W9) (hdg : decode c.code g.pc = .ok (.invokespecial index, 3))
    (hpre : ∀ vm₁, s.WarmedH vm₁ → Pre ⟨T.setVm vm₁, locs, cells, slots⟩ (Value.ref a :: argsL).toArray) :
    (∃ (v : Option Value) (vm₁ : Vm) (B : Pt), s.WarmedH vm₁ ∧ Stand p l e R s m args below meth c B.U B.locs B.cells B.slots ∧ Post ⟨T.setVm vm₁, locs, cells, slots⟩ (Value.ref a :: argsL).toArray v B ∧
      ∀ target, Steps p.tables e below (B.U.setTop { g with pc := g.pc + 3, stack := v.toList ++ rest }) target → Steps p.tables e below (T.setTop g) target) ∨
    (∃ (q : Addr) (vm₁ : Vm) (B : Pt), s.WarmedH vm₁ ∧ Stand p l e R s m args below meth c B.U B.locs B.cells B.slots ∧ PostX ⟨T.setVm vm₁, locs, cells, slots⟩ (Value.ref a :: argsL).toArray q B ∧
      Steps p.tables e below (T.setTop g) ((B.U.setTop { g with stack := rest }).pushFrame (.throwing q))) := by
  subst hg
  have hpl : e.platform.magicAccessors = ({} : Platform).magicAccessors := by rw [X.admits.platform]
  obtain ⟨mk, methM, cM, kP, vm₁, hnamed, hmethM, hcodeM, -, hlocalsM, -, hkP, -, hW₁, hstep₁⟩ := Steps.initColdArgs (e := e) X.here hexec X.warmed hpl hown hy1 hy hlink hinst hcode (f := g) rfl hlen hstack hdg
  have X₁ := X.noted hW₁
  rcases hK g.method meth c ⟨T.setVm vm₁, locs, cells, slots⟩ { g with stack := rest } (.invokespecial index) mk (Value.ref a :: argsL).toArray X₁ rfl hsize hdg hW (X₁.named hnamed) (hpre vm₁ X₁.warmed) with ⟨v, B, X', hpost, hsteps⟩ | ⟨q, B, X', hpost, hsteps⟩
  · exact Or.inl ⟨v, vm₁, B, X₁.warmed, X', hpost, fun target h => hstep₁ _ fun acts => by rw [doInvoke_state]; exact hsteps.trans h⟩
  · exact Or.inr ⟨q, vm₁, B, X₁.warmed, X', hpost, hstep₁ _ fun acts => by rw [doInvoke_state]; exact hsteps⟩
end VXIA
section VXIB
variable {p : Program} {l : Launch} {e : Env} {R : Room} {s : State} {m : MethodId} {args : Array Value} {below : List Frame} {meth : Method} {c : Code} {H : Heap} {locs : List Loc} {cells slots : Nat}
variable {y : MethodName} {bytes cc : ByteArray} {maxL nL mc ms n index : Nat} {ret : Option FieldType} {ws : List Cond} {rm : Room} {Pc : Array Value → State → Prop} {Qc : Array Value → State → Outcome → State → Prop} {XC : String → State → State → Prop} {free : Addr → Prop} {Ts : List Cond} {own C : String} {b : Addr} {As rest : List Value} {g : JFrame}
theorem vx_runI (S : CallFix p m c cc nL s args Ts own) (hM : vx_Met l y ws rm Pc Qc XC mc ms free) (cw : CallB R s args own index y bytes maxL none ws rm mc ms n ∧ y.name = "<init>" ∧ (Cond.instanceMethod y).before args s = true) (hp : PreS s H Pc (.ref b :: As))
    (hg : g.method = m) (hn : As.length = n) (hsize : g.locals.size = nL) (hstack : g.stack = As.reverse ++ .ref b :: rest) (hW : 2 * g.monitorRoom + (rest.map fun v => v.category).sum ≤ 8) (hdg : decode cc g.pc = .ok (.invokespecial index, 3)) (hf : cells + mc ≤ R.cells ∧ slots + ms ≤ R.slots) :
    vx_Run p l e R s m args below meth c H locs cells slots mc ms g rest (Qc (Value.ref b :: As).toArray) XC free := by
  have hK : vx_Back l R p e below s args y 3 8 (PreOf R mc ms Pc) (PostOf Qc mc ms free) (vx_Post XC mc ms free) := vx_callBack cw.1 hM hp.1
  obtain ⟨⟨-, -, -, -, -, -, hcode, -, hy, hlen, hl⟩, hy1, hin⟩ := cw
  obtain ⟨hx, hb, hml, ho, -⟩ := S
  have hPc := hp.2
  intro T hT X
  rcases vx_callI X hx (bytes := bytes) (maxL := maxL) ho hy1 hl hin hcode hy hK hg (hsize.trans hml.symm) (a := b) (argsL := As) (rest := rest) (fun sig h => hn.trans (hlen sig h)) hstack hW (by rw [hb]; exact hdg)
    (fun vm₁ hW₁ => ⟨hf.1, hf.2, hPc (T.setVm vm₁) hT hW₁⟩) with ⟨v, vm₁, ⟨U', l2, c2, s2⟩, hW₁, X', ⟨g', mk, t, L, e1, e2, hq, h1, hL, h2, h3⟩, st⟩ | ⟨q, vm₁, ⟨U', l2, c2, s2⟩, hW₁, X', ⟨g', mk, t, L, E, ce, e1, e2, hq, hce, hcv, hcl, h1, hL, h2, h3⟩, st⟩
  · dsimp only [Pt.U, Pt.locs, Pt.cells, Pt.slots] at X' e1 e2 h1 h2 h3 st
    subst h1; subst h2; subst h3
    exact Or.inl ⟨v, (T.setVm vm₁).calling g' mk (Value.ref b :: As).toArray, t, U', L, hT, X', hL, e1, e2, hq, st⟩
  · dsimp only [Pt.U, Pt.locs, Pt.cells, Pt.slots] at X' e1 e2 h1 h2 h3 st hcl
    subst h1; subst h2; subst h3
    exact Or.inr ⟨q, (T.setVm vm₁).calling g' mk (Value.ref b :: As).toArray, t, U', L, E, ce, hT, X', hL, e1, e2, hq, hce, hcv, vx_cls hW₁ hcl, st⟩
end VXIB
/-! ===== END ===== -/
/-! ===== BEGIN a private constructor of a nest mate that throws ===== -/
section VXIC
variable {p : Program} {l : Launch} {e : Env} {R : Room} {s : State} {m : MethodId} {args : Array Value} {below : List Frame} {meth : Method} {c : Code} {T : State} {locs : List Loc} {cells slots : Nat}
theorem vx_callIN (X : Stand p l e R s m args below meth c T locs cells slots) (hexec : p.tables.exec = Jvm.exec) {own : String} {index : Nat} {host : String} {y : MethodName} {bytes : ByteArray} {maxL : Nat}
    (hown : s.vm.findClass own = some m.cls) (hy1 : y.name = "<init>") (hlink : (Cond.methodLinkNest own index y host).before args s = true) (hinst : (Cond.instanceMethod y).before args s = true)
    (hcode : (Cond.code y bytes maxL none).before args s = true) (hy : y.cls ≠ "java/lang/invoke/MethodHandle" ∧ y.cls ≠ "java/lang/invoke/VarHandle")
    {W9 : Nat} {Pre : Pt → Array Value → Prop} {Post : Pt → Array Value → Option Value → Pt → Prop} {PostX : Pt → Array Value → Addr → Pt → Prop} (hK : vx_Back l R p e below s args y 3 W9 Pre Post PostX)
    {g : JFrame} (hg : g.method = m) (hsize : g.locals.size = c.maxLocals) {a : Addr} {argsL rest : List Value} (hlen : ∀ sig, parseMethodDescriptor y.desc = some sig → argsL.length = sig.parameters.length)
    (hstack : g.stack = argsL.reverse ++ .ref a :: rest) (hW : 2 * g.monitorRoom + (rest.map fun v => v.category).sum ≤ W9) (hdg : decode c.code g.pc = .ok (.invokespecial index, 3))
    (hpre : ∀ vm₁, s.WarmedH vm₁ → Pre ⟨T.setVm vm₁, locs, cells, slots⟩ (Value.ref a :: argsL).toArray) :
    (∃ (v : Option Value) (vm₁ : Vm) (B : Pt), s.WarmedH vm₁ ∧ Stand p l e R s m args below meth c B.U B.locs B.cells B.slots ∧ Post ⟨T.setVm vm₁, locs, cells, slots⟩ (Value.ref a :: argsL).toArray v B ∧
      ∀ target, Steps p.tables e below (B.U.setTop { g with pc := g.pc + 3, stack := v.toList ++ rest }) target → Steps p.tables e below (T.setTop g) target) ∨
    (∃ (q : Addr) (vm₁ : Vm) (B : Pt), s.WarmedH vm₁ ∧ Stand p l e R s m args below meth c B.U B.locs B.cells B.slots ∧ PostX ⟨T.setVm vm₁, locs, cells, slots⟩ (Value.ref a :: argsL).toArray q B ∧
      Steps p.tables e below (T.setTop g) ((B.U.setTop { g with stack := rest }).pushFrame (.throwing q))) := by
  subst hg
  have hpl : e.platform.magicAccessors = ({} : Platform).magicAccessors := by rw [X.admits.platform]
  obtain ⟨mk, methM, cM, kP, vm₁, hnamed, hmethM, hcodeM, -, hlocalsM, -, hkP, -, hW₁, hstep₁⟩ := Steps.initColdArgsNest (e := e) X.here hexec X.warmed hpl hown hy1 hy hlink hinst hcode (f := g) rfl hlen hstack hdg
  have X₁ := X.noted hW₁
  rcases hK g.method meth c ⟨T.setVm vm₁, locs, cells, slots⟩ { g with stack := rest } (.invokespecial index) mk (Value.ref a :: argsL).toArray X₁ rfl hsize hdg hW (X₁.named hnamed) (hpre vm₁ X₁.warmed) with ⟨v, B, X', hpost, hsteps⟩ | ⟨q, B, X', hpost, hsteps⟩
  · exact Or.inl ⟨v, vm₁, B, X₁.warmed, X', hpost, fun target h => hstep₁ _ fun acts => by rw [doInvoke_state]; exact hsteps.trans h⟩
  · exact Or.inr ⟨q, vm₁, B, X₁.warmed, X', hpost, hstep₁ _ fun acts => by rw [doInvoke_state]; exact hsteps⟩
end VXIC
section VXID
variable {p : Program} {l : Launch} {e : Env} {R : Room} {s : State} {m : MethodId} {args : Array Value} {below : List Frame} {meth : Method} {c : Code} {H : Heap} {locs : List Loc} {cells slots : Nat}
theorem vx_runIN {y : MethodName} {bytes cc : ByteArray} {maxL nL mc ms n index : Nat} {ws : List Cond} {rm : Room} {Pc : Array Value → State → Prop} {Qc : Array Value → State → Outcome → State → Prop} {XC : String → State → State → Prop} {free : Addr → Prop} {Ts : List Cond} {own host : String} {b : Addr} {As rest : List Value} {g : JFrame}
    (S : CallFix p m c cc nL s args Ts own) (hM : vx_Met l y ws rm Pc Qc XC mc ms free) (cw : va_CN R s args own index y host bytes maxL none ws rm mc ms n ∧ y.name = "<init>" ∧ (Cond.instanceMethod y).before args s = true) (hp : PreS s H Pc (.ref b :: As))
    (hg : g.method = m) (hn : As.length = n) (hsize : g.locals.size = nL) (hstack : g.stack = As.reverse ++ .ref b :: rest) (hW : 2 * g.monitorRoom + (rest.map fun v => v.category).sum ≤ 8) (hdg : decode cc g.pc = .ok (.invokespecial index, 3)) (hf : cells + mc ≤ R.cells ∧ slots + ms ≤ R.slots) :
    vx_Run p l e R s m args below meth c H locs cells slots mc ms g rest (Qc (Value.ref b :: As).toArray) XC free := by
  obtain ⟨⟨⟨hrc, hrs, hfr, hlo, hws, hcw⟩, hcode, hini, hy, hlen, hl⟩, hx1, hx2⟩ := cw
  have hK : vx_Back l R p e below s args y 3 8 (PreOf R mc ms Pc) (PostOf Qc mc ms free) (vx_Post XC mc ms free) := vx_back (bytes := bytes) (maxL := maxL) (ret := none) hM hp.1 hrc hrs hfr hlo hws hcw (fun a' U hW => word_at hW (Or.inl (by first | rfl | simp [Cond.onTables, Cond.keeps, Cond.steady])) hini)
  obtain ⟨hx, hb, hml, ho, -⟩ := S
  have hPc := hp.2
  intro T hT X
  rcases vx_callIN X hx (bytes := bytes) (maxL := maxL) ho hx1 hl hx2 hcode hy hK hg (hsize.trans hml.symm) (a := b) (argsL := As) (rest := rest) (fun sig h => hn.trans (hlen sig h)) hstack hW (by rw [hb]; exact hdg)
    (fun vm₁ hW₁ => ⟨hf.1, hf.2, hPc (T.setVm vm₁) hT hW₁⟩) with ⟨v, vm₁, ⟨U', l2, c2, s2⟩, hW₁, X', ⟨g', mk, t, L, e1, e2, hq, h1, hL, h2, h3⟩, st⟩ | ⟨q, vm₁, ⟨U', l2, c2, s2⟩, hW₁, X', ⟨g', mk, t, L, E, ce, e1, e2, hq, hce, hcv, hcl, h1, hL, h2, h3⟩, st⟩
  · dsimp only [Pt.U, Pt.locs, Pt.cells, Pt.slots] at X' e1 e2 h1 h2 h3 st
    subst h1; subst h2; subst h3
    exact Or.inl ⟨v, (T.setVm vm₁).calling g' mk (Value.ref b :: As).toArray, t, U', L, hT, X', hL, e1, e2, hq, st⟩
  · dsimp only [Pt.U, Pt.locs, Pt.cells, Pt.slots] at X' e1 e2 h1 h2 h3 st hcl
    subst h1; subst h2; subst h3
    exact Or.inr ⟨q, (T.setVm vm₁).calling g' mk (Value.ref b :: As).toArray, t, U', L, E, ce, hT, X', hL, e1, e2, hq, hce, hcv, vx_cls hW₁ hcl, st⟩
end VXID
/-! ===== BEGIN a private method of a nest mate that may throw (follows va_callVN, va_callSN, va_runVN, va_runSN) ===== -/
section
variable {p : Program} {l : Launch} {e : Env} {R : Room} {s : State} {m : MethodId} {args : Array Value} {below : List Frame} {meth : Method} {c : Code} {H : Heap} {locs : List Loc} {cells slots : Nat}
variable {T : State}
theorem vx_callVN (X : Stand p l e R s m args below meth c T locs cells slots) (hexec : p.tables.exec = Jvm.exec) {own C : String} {index : Nat} {host : String} {y : MethodName} {bytes : ByteArray} {maxL : Nat} {ret : Option FieldType}
    (hown : s.vm.findClass own = some m.cls) (hlink : (Cond.methodLinkNest own index y host).before args s = true) (hinst : (Cond.instanceMethod y).before args s = true) (hsel : (Cond.selects C y y).before args s = true)
    (hcode : (Cond.code y bytes maxL ret).before args s = true) (hy : y.cls ≠ "java/lang/invoke/MethodHandle" ∧ y.cls ≠ "java/lang/invoke/VarHandle")
    {W : Nat} {Pre : Pt → Array Value → Prop} {Post : Pt → Array Value → Option Value → Pt → Prop} {PostX : Pt → Array Value → Addr → Pt → Prop} (hK : vx_Back l R p e below s args y 3 W Pre Post PostX)
    {b : Addr} {cellB : Cell} (hcell : T.heap[b]? = some cellB) (hobj : cellB.vm.isStatics = false) (hcls : s.vm.findClass C = some cellB.cls)
    {g : JFrame} (hg : g.method = m) (hsize : g.locals.size = c.maxLocals) {argsL rest : List Value} (hlen : ∀ sig, parseMethodDescriptor y.desc = some sig → argsL.length = sig.parameters.length)
    (hstack : g.stack = argsL.reverse ++ .ref b :: rest) (hW : 2 * g.monitorRoom + (rest.map fun v => v.category).sum ≤ W) (hdg : decode c.code g.pc = .ok (.invokevirtual index, 3))
    (hpre : ∀ vm₁, s.WarmedH vm₁ → Pre ⟨T.setVm vm₁, locs, cells, slots⟩ (Value.ref b :: argsL).toArray) :
    (∃ (v : Option Value) (vm₁ : Vm) (B : Pt), s.WarmedH vm₁ ∧ Stand p l e R s m args below meth c B.U B.locs B.cells B.slots ∧ Post ⟨T.setVm vm₁, locs, cells, slots⟩ (Value.ref b :: argsL).toArray v B ∧
      ∀ target, Steps p.tables e below (B.U.setTop { g with pc := g.pc + 3, stack := v.toList ++ rest }) target → Steps p.tables e below (T.setTop g) target) ∨
    (∃ (q : Addr) (vm₁ : Vm) (B : Pt), s.WarmedH vm₁ ∧ Stand p l e R s m args below meth c B.U B.locs B.cells B.slots ∧ PostX ⟨T.setVm vm₁, locs, cells, slots⟩ (Value.ref b :: argsL).toArray q B ∧
      Steps p.tables e below (T.setTop g) ((B.U.setTop { g with stack := rest }).pushFrame (.throwing q))) := by
  obtain ⟨mk, methM, hnamed, hmethM, hstM, habM⟩ := Cond.instanceMethod_spec hinst
  obtain ⟨methM', cM, hmethM', -, -, -, -, -, -, hsigM⟩ := Cond.code_spec hnamed hcode
  cases hmethM.symm.trans hmethM'
  obtain ⟨c2, r2, m2, q1, q2, q3, q4, kP, hkP, hkPi⟩ := Cond.selects_spec hsel
  cases hcls.symm.trans q1
  cases (State.methodFound?_of_named hnamed hy).symm.trans q2
  cases hnamed.symm.trans q3
  have hselP : selectMethod e.platform s.vm cellB.cls mk = .method mk := by rw [Launch.admits_selectMethod X.admits]; exact q4
  obtain ⟨vm₁, X₁, hstep₁⟩ := X.invokevirtualNest hexec hown hlink hnamed hmethM hstM hkP hkPi hy (a := b) (cell := cellB) hcell
    (fun z h => by rw [h] at hobj; cases hobj) hselP hmethM habM hkP hkPi (g := g) hg (argsL := argsL) (rest := rest) (hlen _ hsigM) hstack hdg
  rcases hK m meth c ⟨T.setVm vm₁, locs, cells, slots⟩ { g with stack := rest } (.invokevirtual index) mk (Value.ref b :: argsL).toArray X₁ hg hsize hdg hW (X₁.named hnamed) (hpre vm₁ X₁.warmed) with ⟨v, B, X', hpost, hsteps⟩ | ⟨q, B, X', hpost, hsteps⟩
  · exact Or.inl ⟨v, vm₁, B, X₁.warmed, X', hpost, fun target h => hstep₁ _ fun acts => by rw [doInvoke_state]; exact hsteps.trans h⟩
  · exact Or.inr ⟨q, vm₁, B, X₁.warmed, X', hpost, hstep₁ _ fun acts => by rw [doInvoke_state]; exact hsteps⟩
theorem vx_callSN (X : Stand p l e R s m args below meth c T locs cells slots) (hexec : p.tables.exec = Jvm.exec) {own : String} {index : Nat} {host : String} {y : MethodName} {bytes : ByteArray} {maxL : Nat} {ret : Option FieldType}
    (hown : s.vm.findClass own = some m.cls) (hlink : (Cond.methodLinkNest own index y host).before args s = true) (hstat : (Cond.static y).before args s = true) (hinit : (Cond.initialized y.cls).before args s = true)
    (hcode : (Cond.code y bytes maxL ret).before args s = true) (hy : y.cls ≠ "java/lang/invoke/MethodHandle" ∧ y.cls ≠ "java/lang/invoke/VarHandle")
    {W : Nat} {Pre : Pt → Array Value → Prop} {Post : Pt → Array Value → Option Value → Pt → Prop} {PostX : Pt → Array Value → Addr → Pt → Prop} (hK : vx_Back l R p e below s args y 3 W Pre Post PostX)
    {g : JFrame} (hg : g.method = m) (hsize : g.locals.size = c.maxLocals) {argsL rest : List Value} (hlen : ∀ sig, parseMethodDescriptor y.desc = some sig → argsL.length = sig.parameters.length)
    (hstack : g.stack = argsL.reverse ++ rest) (hW : 2 * g.monitorRoom + (rest.map fun v => v.category).sum ≤ W) (hdg : decode c.code g.pc = .ok (.invokestatic index, 3))
    (hpre : ∀ vm₁, s.WarmedH vm₁ → Pre ⟨T.setVm vm₁, locs, cells, slots⟩ argsL.toArray) :
    (∃ (v : Option Value) (vm₁ : Vm) (B : Pt), s.WarmedH vm₁ ∧ Stand p l e R s m args below meth c B.U B.locs B.cells B.slots ∧ Post ⟨T.setVm vm₁, locs, cells, slots⟩ argsL.toArray v B ∧
      ∀ target, Steps p.tables e below (B.U.setTop { g with pc := g.pc + 3, stack := v.toList ++ rest }) target → Steps p.tables e below (T.setTop g) target) ∨
    (∃ (q : Addr) (vm₁ : Vm) (B : Pt), s.WarmedH vm₁ ∧ Stand p l e R s m args below meth c B.U B.locs B.cells B.slots ∧ PostX ⟨T.setVm vm₁, locs, cells, slots⟩ argsL.toArray q B ∧
      Steps p.tables e below (T.setTop g) ((B.U.setTop { g with stack := rest }).pushFrame (.throwing q))) := by
  obtain ⟨mk, hnamed⟩ := Cond.code_named hcode
  obtain ⟨methM, cM, hmethM, -, -, -, -, -, -, hsigM⟩ := Cond.code_spec hnamed hcode
  have hstatic : methM.isStatic = true := Cond.static_spec hnamed hmethM hstat
  obtain ⟨kP, hkP, -⟩ := className_of_methodNamed hnamed
  have hinitP : kP.init = .initialized := Cond.initialized_spec (findClass_of_methodNamed hnamed) hkP hinit
  obtain ⟨vm₁, X₁, hstep₁⟩ := X.invokestaticNest hexec hown hlink hnamed hmethM hstatic hkP hinitP hy (g := g) hg (argsL := argsL) (rest := rest) (hlen _ hsigM) hstack hdg
  rcases hK m meth c ⟨T.setVm vm₁, locs, cells, slots⟩ { g with stack := rest } (.invokestatic index) mk argsL.toArray X₁ hg hsize hdg hW (X₁.named hnamed) (hpre vm₁ X₁.warmed) with ⟨v, B, X', hpost, hsteps⟩ | ⟨q, B, X', hpost, hsteps⟩
  · exact Or.inl ⟨v, vm₁, B, X₁.warmed, X', hpost, fun target h => hstep₁ _ fun acts => by rw [doInvoke_state]; exact hsteps.trans h⟩
  · exact Or.inr ⟨q, vm₁, B, X₁.warmed, X', hpost, hstep₁ _ fun acts => by rw [doInvoke_state]; exact hsteps⟩
theorem vx_runVN {y : MethodName} {bytes cc : ByteArray} {maxL nL mc ms n index : Nat} {ret : Option FieldType} {ws : List Cond} {rm : Room} {Pc : Array Value → State → Prop} {Qc : Array Value → State → Outcome → State → Prop} {XC : String → State → State → Prop} {free : Addr → Prop} {Ts : List Cond} {own C host : String} {b : Addr} {As rest : List Value} {g : JFrame}
    (S : CallFix p m c cc nL s args Ts own) (hM : vx_Met l y ws rm Pc Qc XC mc ms free) (cw : va_CN R s args own index y host bytes maxL ret ws rm mc ms n ∧ (Cond.instanceMethod y).before args s = true ∧ (Cond.selects C y y).before args s = true) (hp : PreV s H C b Pc As)
    (hg : g.method = m) (hn : As.length = n) (hsize : g.locals.size = nL) (hstack : g.stack = As.reverse ++ .ref b :: rest) (hW : 2 * g.monitorRoom + (rest.map fun v => v.category).sum ≤ 8) (hdg : decode cc g.pc = .ok (.invokevirtual index, 3)) (hf : cells + mc ≤ R.cells ∧ slots + ms ≤ R.slots) :
    vx_Run p l e R s m args below meth c H locs cells slots mc ms g rest (Qc (Value.ref b :: As).toArray) XC free := by
  obtain ⟨⟨⟨hrc, hrs, hfr, hlo, hws, hcw⟩, hcode, hini, hy, hlen, hl⟩, hx1, hx2⟩ := cw
  have hK : vx_Back l R p e below s args y 3 8 (PreOf R mc ms Pc) (PostOf Qc mc ms free) (vx_Post XC mc ms free) := vx_back (bytes := bytes) (maxL := maxL) (ret := ret) hM hp.1 hrc hrs hfr hlo hws hcw (fun a' U hW => word_at hW (Or.inl (by first | rfl | simp [Cond.onTables, Cond.keeps, Cond.steady])) hini)
  obtain ⟨hx, hb, hml, ho, -⟩ := S
  obtain ⟨-, ⟨cellB, hcB, hoB, hclB⟩, hPc⟩ := hp
  intro T hT X
  rcases vx_callVN X hx (C := C) (bytes := bytes) (maxL := maxL) (ret := ret) ho hl hx1 hx2 hcode hy hK (by rw [hT]; exact hcB) hoB hclB hg (hsize.trans hml.symm) (argsL := As) (rest := rest) (fun sig h => hn.trans (hlen sig h)) hstack hW (by rw [hb]; exact hdg)
    (fun vm₁ hW₁ => ⟨hf.1, hf.2, hPc (T.setVm vm₁) hT hW₁⟩) with ⟨v, vm₁, ⟨U', l2, c2, s2⟩, hW₁, X', ⟨g', mk, t, L, e1, e2, hq, h1, hL, h2, h3⟩, st⟩ | ⟨q, vm₁, ⟨U', l2, c2, s2⟩, hW₁, X', ⟨g', mk, t, L, E, ce, e1, e2, hq, hce, hcv, hcl, h1, hL, h2, h3⟩, st⟩
  · dsimp only [Pt.U, Pt.locs, Pt.cells, Pt.slots] at X' e1 e2 h1 h2 h3 st
    subst h1; subst h2; subst h3
    exact Or.inl ⟨v, (T.setVm vm₁).calling g' mk (Value.ref b :: As).toArray, t, U', L, hT, X', hL, e1, e2, hq, st⟩
  · dsimp only [Pt.U, Pt.locs, Pt.cells, Pt.slots] at X' e1 e2 h1 h2 h3 st hcl
    subst h1; subst h2; subst h3
    exact Or.inr ⟨q, (T.setVm vm₁).calling g' mk (Value.ref b :: As).toArray, t, U', L, E, ce, hT, X', hL, e1, e2, hq, hce, hcv, vx_cls hW₁ hcl, st⟩
theorem vx_runSN {y : MethodName} {bytes cc : ByteArray} {maxL nL mc ms n index : Nat} {ret : Option FieldType} {ws : List Cond} {rm : Room} {Pc : Array Value → State → Prop} {Qc : Array Value → State → Outcome → State → Prop} {XC : String → State → State → Prop} {free : Addr → Prop} {Ts : List Cond} {own host : String} {As rest : List Value} {g : JFrame}
    (S : CallFix p m c cc nL s args Ts own) (hM : vx_Met l y ws rm Pc Qc XC mc ms free) (cw : va_CN R s args own index y host bytes maxL ret ws rm mc ms n ∧ (Cond.static y).before args s = true ∧ True) (hp : PreS s H Pc As)
    (hg : g.method = m) (hn : As.length = n) (hsize : g.locals.size = nL) (hstack : g.stack = As.reverse ++ rest) (hW : 2 * g.monitorRoom + (rest.map fun v => v.category).sum ≤ 8) (hdg : decode cc g.pc = .ok (.invokestatic index, 3)) (hf : cells + mc ≤ R.cells ∧ slots + ms ≤ R.slots) :
    vx_Run p l e R s m args below meth c H locs cells slots mc ms g rest (Qc As.toArray) XC free := by
  obtain ⟨⟨⟨hrc, hrs, hfr, hlo, hws, hcw⟩, hcode, hini, hy, hlen, hl⟩, hx1, hx2⟩ := cw
  have hK : vx_Back l R p e below s args y 3 8 (PreOf R mc ms Pc) (PostOf Qc mc ms free) (vx_Post XC mc ms free) := vx_back (bytes := bytes) (maxL := maxL) (ret := ret) hM hp.1 hrc hrs hfr hlo hws hcw (fun a' U hW => word_at hW (Or.inl (by first | rfl | simp [Cond.onTables, Cond.keeps, Cond.steady])) hini)
  obtain ⟨hx, hb, hml, ho, -⟩ := S
  have hPc := hp.2
  intro T hT X
  rcases vx_callSN X hx (bytes := bytes) (maxL := maxL) (ret := ret) ho hl hx1 hini hcode hy hK hg (hsize.trans hml.symm) (argsL := As) (rest := rest) (fun sig h => hn.trans (hlen sig h)) hstack hW (by rw [hb]; exact hdg)
    (fun vm₁ hW₁ => ⟨hf.1, hf.2, hPc (T.setVm vm₁) hT hW₁⟩) with ⟨v, vm₁, ⟨U', l2, c2, s2⟩, hW₁, X', ⟨g', mk, t, L, e1, e2, hq, h1, hL, h2, h3⟩, st⟩ | ⟨q, vm₁, ⟨U', l2, c2, s2⟩, hW₁, X', ⟨g', mk, t, L, E, ce, e1, e2, hq, hce, hcv, hcl, h1, hL, h2, h3⟩, st⟩
  · dsimp only [Pt.U, Pt.locs, Pt.cells, Pt.slots] at X' e1 e2 h1 h2 h3 st
    subst h1; subst h2; subst h3
    exact Or.inl ⟨v, (T.setVm vm₁).calling g' mk As.toArray, t, U', L, hT, X', hL, e1, e2, hq, st⟩
  · dsimp only [Pt.U, Pt.locs, Pt.cells, Pt.slots] at X' e1 e2 h1 h2 h3 st hcl
    subst h1; subst h2; subst h3
    exact Or.inr ⟨q, (T.setVm vm₁).calling g' mk As.toArray, t, U', L, E, ce, hT, X', hL, e1, e2, hq, hce, hcv, vx_cls hW₁ hcl, st⟩
end
end
section
set_option maxHeartbeats 4000000 in
/-- .. of a body with handlers, that throws nothing -/
theorem a_metH {y : MethodName} {I : a_I} {av : List Value} {h : a_H} {Q : a_Q} (hy : plainName y.cls = true) (hown : i_own I = y.cls) (hnh : i_hh I ≠ []) (hlen : av.length ≤ i_nL I) (hcat : ∀ v ∈ av, v.category = 1) (hini : i_ini I = true → y.name = "<init>") (hxs : i_xs I = none)
    (k : AW I 0 (av ++ List.replicate (i_nL I - av.length) .null) [] h 0 0 Q) : AM y I av h Q := by
  intro l V hl
  have hcd : a_cd y I = Cond.codeWith y (i_cc I) (i_nL I) (i_ret I) (i_hh I) := if_neg hnh
  refine vx_ofWH (cc := i_cc I) (maxL := i_nL I) (ret := i_ret I) (hh := i_hh I) (ws' := a_GT) hy (by rw [hcd]) ?_
  intro p e s m args below meth c s₁ B hml hPre
  obtain ⟨rfl, ⟨ws, tys, hP⟩, hX, hcl, hB⟩ := hPre
  have hts := atoms_spec (ws := a_cd y I :: a_GT) B.pre
  have hno : c.exceptionTable.toList = tableOf (i_hh I) := vx_table (x := y) B (by have := hts _ List.mem_cons_self; rw [hcd] at this; exact this)
  have hlocks := B.notSynchronized
  have hsl : lg_sl (av.map (a_cv V)) = (av.map (a_cv V)).map Slot.val := by
    unfold lg_sl
    rw [List.flatMap_map, List.map_map]
    have : ∀ (l : List Value), (∀ v ∈ l, v.category = 1) → l.flatMap (fun v => if (a_cv V v).category = 2 then [Slot.val (a_cv V v), Slot.second] else [Slot.val (a_cv V v)]) = l.map (Slot.val ∘ a_cv V) := by
      intro l
      induction l with
      | nil => intro _; rfl
      | cons v t ih =>
        intro hv
        have h1 := hv v List.mem_cons_self
        rw [List.flatMap_cons, ih (fun w hw => hv w (List.mem_cons_of_mem _ hw)), a_cv_cat, h1]
        rfl
    exact this av hcat
  have hentry := lv_entry (av.map (a_cv V)) (n := i_nL I) (by rw [hsl]; simpa using hlen)
  rw [lg_entry_eq]
  have hargs : ∀ (i : Nat) (v : Value), av[i]? = some v → ((lg_sl (av.map (a_cv V)) ++ List.replicate (i_nL I - (lg_sl (av.map (a_cv V))).length) Slot.unset).toArray)[i]? = some (.val (a_cv V v)) := by
    intro i v hv
    have hi := (List.getElem?_eq_some_iff.mp hv).1
    rw [hsl, List.getElem?_toArray, List.getElem?_append_left (by simpa using hi), List.getElem?_map, List.getElem?_map, hv]
    rfl
  generalize (lg_sl (av.map (a_cv V)) ++ List.replicate (i_nL I - (lg_sl (av.map (a_cv V))).length) Slot.unset).toArray = lsC at hentry hargs ⊢
  have hpost : ∀ (H : Heap) (locs : List Loc) (h : a_H) (ws : va_W) (tys : List (ClassId × FieldType)) (v : Option Value), a_HP V h.2 H s ws tys → va_S (a_A V) s.heap H locs → Q (.inl v) h → ∀ t : State, t.heap = H → s.WarmedH t.vm → a_Qc V Q (av.map (a_cv V)).toArray s (.returned (v.map (a_cv V))) t :=
    fun H locs h ws tys v a1 a2 a3 t ht hW => ⟨⟨v, h, rfl, a3, ws, tys, by rw [ht]; exact a1.moved hW.alike⟩, a2.F ht⟩
  refine k V p l e _ s m _ below meth c s.heap [] _ ws tys lsC ⟨B.exec, B.bytes, hml, by rw [hown]; exact findClass_of_methodNamed B.named, fun w hw => hts w (List.mem_cons_of_mem _ hw), hlocks, hl, ⟨Nat.le_refl _, Nat.le_refl _, rfl, rfl⟩, hno,
    fun z => (name_of_methodNamed B.named B.method).1.trans (hini z), hX, hB, fun q hq => by rw [hxs] at hq; cases hq⟩ ⟨?_, ?_, ?_⟩ (fun z => hcl z) hP va_S.rf (Nat.zero_le _) (Nat.zero_le _) ⟨hentry.1, hentry.2.1, ?_⟩
  · intro H locs h ws tys pc ls v a1 a2 a3 a4 a5
    have hq := hpost H locs h ws tys v a1 a2 a3
    match v, a4, a5, hq with
    | none, a4, a5, hq => exact vx_ret (W.vret B.exec B.bytes (B.returns.trans a5) hq a2.2.2 a4 hlocks)
    | some (.int x), a4, a5, hq => obtain ⟨ty, b1, b2⟩ := a5; exact vx_ret (W.zret B.exec B.bytes (B.returns.trans b1) b2 hq a2.2.2 a4 hlocks)
    | some (.long x), a4, a5, hq => exact vx_ret (W.lret B.exec B.bytes (B.returns.trans a5) hq a2.2.2 a4 hlocks)
    | some (.float x), a4, a5, hq => exact vx_ret (W.fret B.exec B.bytes (B.returns.trans a5) hq a2.2.2 a4 hlocks)
  · exact fun z => absurd z hnh
  · exact fun z => absurd z hnh
  · intro i v hi hv
    by_cases hil : i < av.length
    · rw [List.getElem?_append_left hil] at hi
      exact hargs i v hi
    · rw [List.getElem?_append_right (by omega)] at hi
      exact absurd (List.eq_of_mem_replicate (List.mem_of_getElem? hi)) hv
/-- what a call site and its callee's words have to say -/
def a_plain (y : MethodName) (n : Nat) : Prop := y.cls ≠ "java/lang/invoke/MethodHandle" ∧ y.cls ≠ "java/lang/invoke/VarHandle" ∧ (parseMethodDescriptor y.desc).map (fun d => d.parameters.length) = some n
def a_CV (own : String) (ix : Nat) (y : MethodName) (I' : a_I) (n : Nat) : Prop :=
  i_hh I' = [] ∧ a_plain y n ∧ Cond.methodLink own ix y ∈ a_GT ∧ Cond.instanceMethod y ∈ a_GT ∧ Cond.selects y.cls y y ∈ a_GT ∧ Cond.initialized y.cls ∈ a_GT ∧ a_cd y I' ∈ a_GT
def a_CI (own : String) (ix : Nat) (y : MethodName) (I' : a_I) (n : Nat) : Prop :=
  i_hh I' = [] ∧ i_ret I' = none ∧ y.name = "<init>" ∧ a_plain y n ∧ (Cond.methodLink own ix y ∈ a_GT ∨ ∃ host, Cond.methodLinkNest own ix y host ∈ a_GN) ∧ Cond.instanceMethod y ∈ a_GT ∧ Cond.initialized y.cls ∈ a_GT ∧ a_cd y I' ∈ a_GT
def a_CS (own : String) (ix : Nat) (y : MethodName) (I' : a_I) (n : Nat) : Prop :=
  a_plain y n ∧ (Cond.methodLink own ix y ∈ a_GT ∨ (i_hh I' = [] ∧ ∃ host, Cond.methodLinkNest own ix y host ∈ a_GN)) ∧ Cond.static y ∈ a_GT ∧ Cond.initialized y.cls ∈ a_GT ∧ a_cd y I' ∈ a_GT
theorem a_wsG {y : MethodName} {I' : a_I} (h : a_cd y I' ∈ a_GT) : ∀ w ∈ a_cd y I' :: a_GT, w ∈ a_GT := fun w hw => (List.mem_cons.mp hw).elim (fun e => by rw [e]; exact h) (fun h => h)
section AC2
variable {I : a_I} {pc uc us : Nat} {ls st : List Value} {h : a_H} {Q : a_Q}
/-- what a caller owes behind a call -/
def a_Kn (I : a_I) (pc : Nat) (ls st : List Value) (h : a_H) (uc us : Nat) (Q : a_Q) (I' : a_I) (Q' : a_Q) : Prop :=
  (∀ v h', Q' (.inl v) h' → (h'.1 = true → h.1 = true ∧ h'.2.length = h.2.length + i_mc I' ∧ h'.2.length ≤ 5000) ∧ AW I (pc + 3) ls (v.toList ++ st) h' (uc + i_mc I') (us + i_ms I') Q) ∧
  (∀ E h', Q' (.inr E) h' → (i_hh I = [] ∧ Q (.inr E) h') ∨ (∃ tgt k nx, a_hd I pc E tgt k nx ∧ h'.1 = false ∧ (∀ j w, ls[j]? = some w → j + 1 = k → w.category = 1) ∧ AW I nx (ls.set k .null) [] h' (uc + i_mc I') (us + i_ms I') Q))
def a_room (I I' : a_I) (st : List Value) (uc us : Nat) : Prop := i_d I' + 1 ≤ i_d I ∧ i_nL I' ≤ 40 ∧ (st.map fun v => v.category).sum ≤ 8 ∧ uc + i_mc I' ≤ i_mc I ∧ us + i_ms I' ≤ i_ms I
theorem r_callV {ix c ci n : Nat} {y : MethodName} {I' : a_I} {As : List Value} {vs : List Value} {Q' : a_Q} (hd : decode (i_cc I) pc = .ok (.invokevirtual ix, 3)) (hc : a_CV (i_own I) ix y I' n) (hM : AM y I' (.ref c :: As) h Q') (hn : As.length = n) (hcell : h.2[c]? = some (.inr (ci, vs))) (hci : ∃ r, a_cls[ci]? = some r ∧ r.1 = y.cls)
    (hrm : a_room I I' st uc us) (k : a_Kn I pc ls st h uc us Q I' Q') : AW I pc ls (As.reverse ++ .ref c :: st) h uc us Q := by
  intro V p l e R s m args below meth c9 H locs Gl ws tys lsC hC hR hN hH hS hu hv2 hL
  obtain ⟨hd1, hnl, hst, hu1, hv1⟩ := hrm
  obtain ⟨hnh, hpl, w1, w2, w3, w4, w5⟩ := hc
  obtain ⟨r, hr, hry⟩ := hci
  have hroom := hC.2.2.2.2.2.2.2.1
  have hB := hC.2.2.2.2.2.2.2.2.2.2.2.1
  have hX := hC.2.2.2.2.2.2.2.2.2.2.1
  have hcd : a_cd y I' = Cond.code y (i_cc I') (i_nL I') (i_ret I') := if_pos hnh
  have hsg : (As.reverse ++ .ref c :: st).map (a_cv V) = (As.map (a_cv V)).reverse ++ .ref (a_ad V c) :: st.map (a_cv V) := by simp [a_cv]
  rw [hsg]
  refine a_after (a := (Value.ref (a_ad V c) :: As.map (a_cv V)).toArray) hC hR hN hH hS hL hu1 hv1 (fun hcl => ?_) k.1 k.2
  exact vx_runV (C := y.cls) (n := n) (b := a_ad V c) (As := As.map (a_cv V)) ⟨hC.1, hC.2.1, hC.2.2.1, hC.2.2.2.1, hC.2.2.2.2.1⟩ (hM l V hC.2.2.2.2.2.2.1)
    (cwV (C := y.cls) (bytes := i_cc I') (maxL := i_nL I') (ret := i_ret I') (ws' := a_GT) n hC.2.2.2.2.1 (a_good (fun w hw => by
      unfold wsV at hw
      rcases List.mem_append.mp hw with g | g
      · simp only [List.mem_cons, List.not_mem_nil, or_false] at g
        rcases g with rfl | rfl | rfl | rfl
        · exact w1
        · exact w2
        · exact w3
        · exact w4
      · exact a_wsG w5 w g)) (by rw [hcd]) rfl rfl ⟨rfl, hpl⟩ ⟨by show i_d I' + 1 ≤ R.frames; omega, by show 8 + (i_nL I' + 11) + 60 * i_d I' ≤ R.locals; omega⟩)
    ⟨a_Pre.blind, by rw [← hry]; exact va_recv hH.2.2.2 hH.2.1 hr (hH.1.objAt hcell), fun U hU hW => ⟨rfl, a_Pre.of hX hB hH hS hcl hU hW⟩⟩ rfl (by simpa using hn) (by rw [hL.1]) rfl (by rw [a_cat]; show 2 * 0 + _ ≤ 8; omega) hd ⟨by rw [hroom.2.2.1]; exact hu1, by rw [hroom.2.2.2]; exact hv1⟩
theorem r_callS {ix n : Nat} {y : MethodName} {I' : a_I} {As : List Value} {Q' : a_Q} (hd : decode (i_cc I) pc = .ok (.invokestatic ix, 3)) (hc : a_CS (i_own I) ix y I' n) (hM : AM y I' As h Q') (hn : As.length = n)
    (hrm : a_room I I' st uc us) (k : a_Kn I pc ls st h uc us Q I' Q') : AW I pc ls (As.reverse ++ st) h uc us Q := by
  intro V p l e R s m args below meth c9 H locs Gl ws tys lsC hC hR hN hH hS hu hv2 hL
  obtain ⟨hd1, hnl, hst, hu1, hv1⟩ := hrm
  obtain ⟨hpl, w1, w2, w4, w5⟩ := hc
  have hroom := hC.2.2.2.2.2.2.2.1
  have hB := hC.2.2.2.2.2.2.2.2.2.2.2.1
  have hX := hC.2.2.2.2.2.2.2.2.2.2.1
  have hsg : (As.reverse ++ st).map (a_cv V) = (As.map (a_cv V)).reverse ++ st.map (a_cv V) := by simp
  rw [hsg]
  refine a_after (a := (As.map (a_cv V)).toArray) hC hR hN hH hS hL hu1 hv1 (fun hcl => ?_) k.1 k.2
  have hgd : ∀ w ∈ va_wsS (i_own I) ix y (a_cd y I' :: a_GT), Cond.methodLink (i_own I) ix y ∈ a_GT → w ∈ a_GT := by
    intro w hw w1
    unfold va_wsS at hw
    rcases List.mem_append.mp hw with g | g
    · simp only [List.mem_cons, List.not_mem_nil, or_false] at g
      rcases g with rfl | rfl | rfl
      · exact w1
      · exact w2
      · exact w4
    · exact a_wsG w5 w g
  have hRm : (a_rm (i_d I') (i_mc I') (i_ms I')).frames + 1 ≤ R.frames ∧ 8 + (i_nL I' + 11) + (a_rm (i_d I') (i_mc I') (i_ms I')).locals ≤ R.locals := ⟨by show i_d I' + 1 ≤ R.frames; omega, by show 8 + (i_nL I' + 11) + 60 * i_d I' ≤ R.locals; omega⟩
  have hfix : CallFix p m c9 (i_cc I) (i_nL I) s args a_GT (i_own I) := ⟨hC.1, hC.2.1, hC.2.2.1, hC.2.2.2.1, hC.2.2.2.2.1⟩
  have hpre : PreS s H (va_Pc (As.map (a_cv V)) (a_Pre V h)) (As.map (a_cv V)) := ⟨a_Pre.blind, fun U hU hW => ⟨rfl, a_Pre.of hX hB hH hS hcl hU hW⟩⟩
  by_cases hnh : i_hh I' = []
  · have hcd : a_cd y I' = Cond.code y (i_cc I') (i_nL I') (i_ret I') := if_pos hnh
    rcases w1 with w1 | ⟨-, host, w1⟩
    · exact vx_runS (n := n) (As := As.map (a_cv V)) hfix (hM l V hC.2.2.2.2.2.2.1) (va_cwS (bytes := i_cc I') (maxL := i_nL I') (ret := i_ret I') (ws' := a_GT) n hC.2.2.2.2.1 (a_good (fun w hw => hgd w hw w1)) (by rw [hcd]) rfl rfl hpl hRm)
        hpre rfl (by simpa using hn) (by rw [hL.1]) rfl (by rw [a_cat]; show 2 * 0 + _ ≤ 8; omega) hd ⟨by rw [hroom.2.2.1]; exact hu1, by rw [hroom.2.2.2]; exact hv1⟩
    · exact vx_runSN (n := n) (host := host) (As := As.map (a_cv V)) hfix (hM l V hC.2.2.2.2.2.2.1) ⟨va_cnB (bytes := i_cc I') (maxL := i_nL I') (ret := i_ret I') (ws' := a_GT) n hC.2.2.2.2.1 (a_good (a_wsG w5)) (by rw [hcd]) rfl rfl (hX.2.2.2.2.2.2.2.2.2 _ w1) (hC.2.2.2.2.1 _ w4) hpl hRm, hC.2.2.2.2.1 _ w2, trivial⟩
        hpre rfl (by simpa using hn) (by rw [hL.1]) rfl (by rw [a_cat]; show 2 * 0 + _ ≤ 8; omega) hd ⟨by rw [hroom.2.2.1]; exact hu1, by rw [hroom.2.2.2]; exact hv1⟩
  · have hcd : a_cd y I' = Cond.codeWith y (i_cc I') (i_nL I') (i_ret I') (i_hh I') := if_neg hnh
    rcases w1 with w1 | ⟨z, -⟩
    · exact vx_runSX (n := n) (As := As.map (a_cv V)) hfix (hM l V hC.2.2.2.2.2.2.1) (vx_cwSW (bytes := i_cc I') (maxL := i_nL I') (ret := i_ret I') (hh := i_hh I') (ws' := a_GT) n hC.2.2.2.2.1 (a_good (fun w hw => hgd w hw w1)) (by rw [hcd]) rfl rfl hpl hRm)
        hpre rfl (by simpa using hn) (by rw [hL.1]) rfl (by rw [a_cat]; show 2 * 0 + _ ≤ 8; omega) hd ⟨by rw [hroom.2.2.1]; exact hu1, by rw [hroom.2.2.2]; exact hv1⟩
    · exact absurd z hnh
theorem r_callI {ix c n : Nat} {y : MethodName} {I' : a_I} {As : List Value} {Q' : a_Q} (hd : decode (i_cc I) pc = .ok (.invokespecial ix, 3)) (hc : a_CI (i_own I) ix y I' n) (hM : AM y I' (.ref c :: As) h Q') (hn : As.length = n)
    (hrm : a_room I I' st uc us) (k : a_Kn I pc ls st h uc us Q I' Q') : AW I pc ls (As.reverse ++ .ref c :: st) h uc us Q := by
  intro V p l e R s m args below meth c9 H locs Gl ws tys lsC hC hR hN hH hS hu hv2 hL
  obtain ⟨hd1, hnl, hst, hu1, hv1⟩ := hrm
  obtain ⟨hnh, hret, hin, hpl, w1, w2, w4, w5⟩ := hc
  have hroom := hC.2.2.2.2.2.2.2.1
  have hB := hC.2.2.2.2.2.2.2.2.2.2.2.1
  have hX := hC.2.2.2.2.2.2.2.2.2.2.1
  have hcd : a_cd y I' = Cond.code y (i_cc I') (i_nL I') none := by rw [← hret]; exact if_pos hnh
  have hsg : (As.reverse ++ .ref c :: st).map (a_cv V) = (As.map (a_cv V)).reverse ++ .ref (a_ad V c) :: st.map (a_cv V) := by simp [a_cv]
  rw [hsg]
  refine a_after (a := (Value.ref (a_ad V c) :: As.map (a_cv V)).toArray) hC hR hN hH hS hL hu1 hv1 (fun hcl => ?_) k.1 k.2
  have hRm : (a_rm (i_d I') (i_mc I') (i_ms I')).frames + 1 ≤ R.frames ∧ 8 + (i_nL I' + 11) + (a_rm (i_d I') (i_mc I') (i_ms I')).locals ≤ R.locals := ⟨by show i_d I' + 1 ≤ R.frames; omega, by show 8 + (i_nL I' + 11) + 60 * i_d I' ≤ R.locals; omega⟩
  have hfix : CallFix p m c9 (i_cc I) (i_nL I) s args a_GT (i_own I) := ⟨hC.1, hC.2.1, hC.2.2.1, hC.2.2.2.1, hC.2.2.2.2.1⟩
  have hpre : PreS s H (va_Pc ((Value.ref c :: As).map (a_cv V)) (a_Pre V h)) (.ref (a_ad V c) :: As.map (a_cv V)) := ⟨a_Pre.blind, fun U hU hW => ⟨rfl, a_Pre.of hX hB hH hS hcl hU hW⟩⟩
  rcases w1 with w1 | ⟨host, w1⟩
  · exact vx_runI (n := n) (b := a_ad V c) (As := As.map (a_cv V)) hfix (hM l V hC.2.2.2.2.2.2.1) (cwI (bytes := i_cc I') (maxL := i_nL I') (ws' := a_GT) n hC.2.2.2.2.1 (a_good (a_wsG w5)) (by rw [hcd]) rfl rfl (hC.2.2.2.2.1 _ w4) (hC.2.2.2.2.1 _ w1) (hC.2.2.2.2.1 _ w2) hin hpl hRm)
      hpre rfl (by simpa using hn) (by rw [hL.1]) rfl (by rw [a_cat]; show 2 * 0 + _ ≤ 8; omega) hd ⟨by rw [hroom.2.2.1]; exact hu1, by rw [hroom.2.2.2]; exact hv1⟩
  · exact vx_runIN (n := n) (host := host) (b := a_ad V c) (As := As.map (a_cv V)) hfix (hM l V hC.2.2.2.2.2.2.1) ⟨va_cnB (bytes := i_cc I') (maxL := i_nL I') (ret := none) (ws' := a_GT) n hC.2.2.2.2.1 (a_good (a_wsG w5)) (by rw [hcd]) rfl rfl (hX.2.2.2.2.2.2.2.2.2 _ w1) (hC.2.2.2.2.1 _ w4) hpl hRm, hin, hC.2.2.2.2.1 _ w2⟩
      hpre rfl (by simpa using hn) (by rw [hL.1]) rfl (by rw [a_cat]; show 2 * 0 + _ ≤ 8; omega) hd ⟨by rw [hroom.2.2.1]; exact hu1, by rw [hroom.2.2.2]; exact hv1⟩
theorem r_objI {ix c : Nat} (hd : decode (i_cc I) pc = .ok (.invokespecial ix, 3)) (w1 : Cond.methodLink (i_own I) ix Lib.objectInit ∈ a_GT) (w2 : Cond.instanceMethod Lib.objectInit ∈ a_GT) (w3 : Cond.code Lib.objectInit ⟨#[0xb1]⟩ 1 none ∈ a_GT) (hdp : 1 ≤ i_d I) (hst : (st.map fun v => v.category).sum ≤ 8)
    (k : AW I (pc + 3) ls st h uc us Q) : AW I pc ls (.ref c :: st) h uc us Q := by
  intro V p l e R s m args below meth c9 H locs Gl ws tys lsC hC hR hN hH hS hu hv2 hL
  have hroom := hC.2.2.2.2.2.2.2.1
  exact W.objInit hC.1 hC.2.1 hC.2.2.2.1 (hC.2.2.2.2.1 _ w1) (hC.2.2.2.2.1 _ w2) (hC.2.2.2.2.1 _ w3) (g := F0 m pc lsC ((Value.ref c :: st).map (a_cv V))) rfl (by rw [hC.2.2.1]; exact hL.1) (rest := st.map (a_cv V)) rfl hd (by omega) (by rw [a_cat]; show 2 * 0 + _ + 12 ≤ R.locals; omega) (k V p l e R s m args below meth c9 H locs Gl ws tys lsC hC hR hN hH hS hu hv2 hL)
end AC2
end
section
theorem a_t_1 {w : Cond} (h : w ∈ tables_1_1) : w ∈ tables_1 := List.mem_append_left _ h
theorem a_t_2 {w : Cond} (h : w ∈ tables_1_2) : w ∈ tables_1 := List.mem_append_right _ (List.mem_append_left _ h)
theorem a_t_3 {w : Cond} (h : w ∈ tables_1_3) : w ∈ tables_1 := List.mem_append_right _ (List.mem_append_right _ (List.mem_append_left _ h))
theorem a_t_4 {w : Cond} (h : w ∈ tables_1_4) : w ∈ tables_1 := List.mem_append_right _ (List.mem_append_right _ (List.mem_append_right _ (List.mem_append_left _ h)))
theorem a_t_5 {w : Cond} (h : w ∈ tables_1_5) : w ∈ tables_1 := List.mem_append_right _ (List.mem_append_right _ (List.mem_append_right _ (List.mem_append_right _ (List.mem_append_left _ h))))
theorem a_t_6 {w : Cond} (h : w ∈ tables_1_6) : w ∈ tables_1 := List.mem_append_right _ (List.mem_append_right _ (List.mem_append_right _ (List.mem_append_right _ (List.mem_append_right _ (List.mem_append_left _ h)))))
theorem a_t_7 {w : Cond} (h : w ∈ tables_1_7) : w ∈ tables_1 := List.mem_append_right _ (List.mem_append_right _ (List.mem_append_right _ (List.mem_append_right _ (List.mem_append_right _ (List.mem_append_right _ (h))))))
theorem a_inT {w : Cond} (h : w ∈ tables_1) (g : goodWord w = true) : w ∈ a_GT := List.mem_filter.mpr ⟨List.mem_append_right _ h, g⟩
theorem a_inN {w : Cond} (h : w ∈ tables_1) (g : a_nw w = true) : w ∈ a_GN := List.mem_filter.mpr ⟨h, g⟩
theorem a_inP {q : MethodName × Nat} (i : Nat) (h : lw_privs[i]? = some q) : Cond.selects q.1.cls q.1 q.1 ∈ a_GT := List.mem_filter.mpr ⟨List.mem_append_left _ (List.mem_map.mpr ⟨q, List.mem_of_getElem? h, rfl⟩), rfl⟩
theorem k_0 : Cond.initialized "ShareTicketsLaw" ∈ a_GT := a_inT (a_t_1 (List.mem_of_getElem? (i := 0) (by decide +kernel))) rfl
theorem k_1 : Cond.initialized "ShareTickets" ∈ a_GT := a_inT (a_t_1 (List.mem_of_getElem? (i := 1) (by decide +kernel))) rfl
theorem k_2 : Cond.initialized "ShareTickets$Place" ∈ a_GT := a_inT (a_t_1 (List.mem_of_getElem? (i := 2) (by decide +kernel))) rfl
theorem k_3 : Cond.initialized "ShareTickets$Tree" ∈ a_GT := a_inT (a_t_1 (List.mem_of_getElem? (i := 3) (by decide +kernel))) rfl
theorem k_4 : Cond.initialized "ShareTickets$Loans" ∈ a_GT := a_inT (a_t_1 (List.mem_of_getElem? (i := 4) (by decide +kernel))) rfl
theorem k_5 : Cond.initialized "ShareTickets$Machines" ∈ a_GT := a_inT (a_t_1 (List.mem_of_getElem? (i := 5) (by decide +kernel))) rfl
theorem k_6 : Cond.initialized "ShareTickets$Jobs" ∈ a_GT := a_inT (a_t_1 (List.mem_of_getElem? (i := 6) (by decide +kernel))) rfl
theorem k_7 : Cond.initialized "ShareTickets$Scale" ∈ a_GT := a_inT (a_t_1 (List.mem_of_getElem? (i := 7) (by decide +kernel))) rfl
theorem k_8 : Cond.initialized "java/lang/System" ∈ a_GT := a_inT (a_t_1 (List.mem_of_getElem? (i := 8) (by decide +kernel))) rfl
theorem k_9 : Cond.initialized "ShareTickets$History" ∈ a_GT := a_inT (a_t_1 (List.mem_of_getElem? (i := 9) (by decide +kernel))) rfl
theorem k_10 : Cond.initialized "ShareTickets$Text" ∈ a_GT := a_inT (a_t_1 (List.mem_of_getElem? (i := 10) (by decide +kernel))) rfl
theorem k_11 : Cond.initialized "ShareTickets$Note" ∈ a_GT := a_inT (a_t_1 (List.mem_of_getElem? (i := 11) (by decide +kernel))) rfl
theorem k_12 : Cond.initialized "ShareTicketsModel" ∈ a_GT := a_inT (a_t_1 (List.mem_of_getElem? (i := 12) (by decide +kernel))) rfl
theorem k_13 : Cond.initialized "java/lang/Throwable" ∈ a_GT := a_inT (a_t_1 (List.mem_of_getElem? (i := 13) (by decide +kernel))) rfl
theorem k_14 : Cond.initialized "java/lang/Exception" ∈ a_GT := a_inT (a_t_1 (List.mem_of_getElem? (i := 14) (by decide +kernel))) rfl
theorem k_15 : Cond.initialized "java/lang/RuntimeException" ∈ a_GT := a_inT (a_t_1 (List.mem_of_getElem? (i := 15) (by decide +kernel))) rfl
theorem k_16 : Cond.initialized "java/lang/IllegalStateException" ∈ a_GT := a_inT (a_t_1 (List.mem_of_getElem? (i := 16) (by decide +kernel))) rfl
theorem k_17 : Cond.initialized "java/lang/IllegalArgumentException" ∈ a_GT := a_inT (a_t_1 (List.mem_of_getElem? (i := 17) (by decide +kernel))) rfl
theorem k_18 : Cond.initialized "java/lang/Math" ∈ a_GT := a_inT (a_t_1 (List.mem_of_getElem? (i := 18) (by decide +kernel))) rfl
theorem k_19 : Cond.initialized "java/lang/String" ∈ a_GT := a_inT (a_t_1 (List.mem_of_getElem? (i := 19) (by decide +kernel))) rfl
theorem k_20 : Cond.initialized "java/lang/StringLatin1" ∈ a_GT := a_inT (a_t_1 (List.mem_of_getElem? (i := 20) (by decide +kernel))) rfl
theorem k_21 : Cond.initialized "jdk/internal/util/Preconditions" ∈ a_GT := a_inT (a_t_1 (List.mem_of_getElem? (i := 21) (by decide +kernel))) rfl
theorem k_22 : Cond.initialized "java/lang/StringUTF16" ∈ a_GT := a_inT (a_t_1 (List.mem_of_getElem? (i := 22) (by decide +kernel))) rfl
theorem k_23 : Cond.initialized "java/lang/IndexOutOfBoundsException" ∈ a_GT := a_inT (a_t_1 (List.mem_of_getElem? (i := 23) (by decide +kernel))) rfl
theorem k_24 : Cond.initialized "java/util/NoSuchElementException" ∈ a_GT := a_inT (a_t_1 (List.mem_of_getElem? (i := 24) (by decide +kernel))) rfl
theorem k_25 : Cond.classLink "ShareTicketsLaw" (8 : Nat) "ShareTickets" ∈ a_GT := a_inT (a_t_1 (List.mem_of_getElem? (i := 25) (by decide +kernel))) rfl
theorem k_26 : Cond.instantiable "ShareTickets" (5 : Nat) ∈ a_GT := a_inT (a_t_1 (List.mem_of_getElem? (i := 26) (by decide +kernel))) rfl
theorem k_27 : Cond.methodLink "ShareTicketsLaw" (97 : Nat) ({ cls := "ShareTickets", name := "<init>", desc := "()V" } : MethodName) ∈ a_GT := a_inT (a_t_1 (List.mem_of_getElem? (i := 27) (by decide +kernel))) rfl
theorem k_28 : Cond.instanceMethod ({ cls := "ShareTickets", name := "<init>", desc := "()V" } : MethodName) ∈ a_GT := a_inT (a_t_1 (List.mem_of_getElem? (i := 28) (by decide +kernel))) rfl
theorem k_29 : Cond.code ({ cls := "ShareTickets", name := "<init>", desc := "()V" } : MethodName) prog_1_method_1_code (1 : Nat) (Option.none : Option ClassFile.FieldType) ∈ a_GT := a_inT (a_t_1 (List.mem_of_getElem? (i := 29) (by decide +kernel))) rfl
theorem k_30 : Cond.methodLink "ShareTickets" (1 : Nat) ({ cls := "java/lang/Object", name := "<init>", desc := "()V" } : MethodName) ∈ a_GT := a_inT (a_t_1 (List.mem_of_getElem? (i := 30) (by decide +kernel))) rfl
theorem k_31 : Cond.instanceMethod ({ cls := "java/lang/Object", name := "<init>", desc := "()V" } : MethodName) ∈ a_GT := a_inT (a_t_1 (List.mem_of_getElem? (i := 31) (by decide +kernel))) rfl
theorem k_32 : Cond.code ({ cls := "java/lang/Object", name := "<init>", desc := "()V" } : MethodName) object_method_1_code (1 : Nat) (Option.none : Option ClassFile.FieldType) ∈ a_GT := a_inT (a_t_1 (List.mem_of_getElem? (i := 32) (by decide +kernel))) rfl
theorem k_33 : Cond.classLink "ShareTickets" (7 : Nat) "ShareTickets$Place" ∈ a_GT := a_inT (a_t_1 (List.mem_of_getElem? (i := 33) (by decide +kernel))) rfl
theorem k_34 : Cond.instantiable "ShareTickets$Place" (9 : Nat) ∈ a_GT := a_inT (a_t_1 (List.mem_of_getElem? (i := 34) (by decide +kernel))) rfl
theorem k_35 : Cond.methodLink "ShareTickets" (9 : Nat) ({ cls := "ShareTickets$Place", name := "<init>", desc := "()V" } : MethodName) ∈ a_GT := a_inT (a_t_1 (List.mem_of_getElem? (i := 35) (by decide +kernel))) rfl
theorem k_36 : Cond.instanceMethod ({ cls := "ShareTickets$Place", name := "<init>", desc := "()V" } : MethodName) ∈ a_GT := a_inT (a_t_1 (List.mem_of_getElem? (i := 36) (by decide +kernel))) rfl
theorem k_37 : Cond.code ({ cls := "ShareTickets$Place", name := "<init>", desc := "()V" } : MethodName) prog_7_method_1_code (1 : Nat) (Option.none : Option ClassFile.FieldType) ∈ a_GT := a_inT (a_t_1 (List.mem_of_getElem? (i := 37) (by decide +kernel))) rfl
theorem k_38 : Cond.methodLink "ShareTickets$Place" (3 : Nat) ({ cls := "java/lang/Object", name := "<init>", desc := "()V" } : MethodName) ∈ a_GT := a_inT (a_t_1 (List.mem_of_getElem? (i := 38) (by decide +kernel))) rfl
theorem k_39 : Cond.classLink "ShareTickets$Place" (9 : Nat) "ShareTickets$Tree" ∈ a_GT := a_inT (a_t_1 (List.mem_of_getElem? (i := 39) (by decide +kernel))) rfl
theorem k_40 : Cond.instantiable "ShareTickets$Tree" (5 : Nat) ∈ a_GT := a_inT (a_t_1 (List.mem_of_getElem? (i := 40) (by decide +kernel))) rfl
theorem k_41 : Cond.methodLink "ShareTickets$Place" (11 : Nat) ({ cls := "ShareTickets$Tree", name := "<init>", desc := "()V" } : MethodName) ∈ a_GT := a_inT (a_t_1 (List.mem_of_getElem? (i := 41) (by decide +kernel))) rfl
theorem k_42 : Cond.instanceMethod ({ cls := "ShareTickets$Tree", name := "<init>", desc := "()V" } : MethodName) ∈ a_GT := a_inT (a_t_1 (List.mem_of_getElem? (i := 42) (by decide +kernel))) rfl
theorem k_43 : Cond.code ({ cls := "ShareTickets$Tree", name := "<init>", desc := "()V" } : MethodName) prog_10_method_1_code (1 : Nat) (Option.none : Option ClassFile.FieldType) ∈ a_GT := a_inT (a_t_1 (List.mem_of_getElem? (i := 43) (by decide +kernel))) rfl
theorem k_44 : Cond.methodLink "ShareTickets$Tree" (3 : Nat) ({ cls := "java/lang/Object", name := "<init>", desc := "()V" } : MethodName) ∈ a_GT := a_inT (a_t_1 (List.mem_of_getElem? (i := 44) (by decide +kernel))) rfl
theorem k_45 : Cond.methodLink "ShareTickets$Tree" (24 : Nat) ({ cls := "ShareTickets$Tree", name := "clear", desc := "()V" } : MethodName) ∈ a_GT := a_inT (a_t_1 (List.mem_of_getElem? (i := 45) (by decide +kernel))) rfl
theorem k_46 : Cond.instanceMethod ({ cls := "ShareTickets$Tree", name := "clear", desc := "()V" } : MethodName) ∈ a_GT := a_inT (a_t_1 (List.mem_of_getElem? (i := 46) (by decide +kernel))) rfl
theorem k_47 : Cond.selects "ShareTickets$Tree" ({ cls := "ShareTickets$Tree", name := "clear", desc := "()V" } : MethodName) ({ cls := "ShareTickets$Tree", name := "clear", desc := "()V" } : MethodName) ∈ a_GT := a_inT (a_t_1 (List.mem_of_getElem? (i := 47) (by decide +kernel))) rfl
theorem k_48 : Cond.code ({ cls := "ShareTickets$Tree", name := "clear", desc := "()V" } : MethodName) prog_10_method_2_code (1 : Nat) (Option.none : Option ClassFile.FieldType) ∈ a_GT := a_inT (a_t_1 (List.mem_of_getElem? (i := 48) (by decide +kernel))) rfl
theorem k_49 : Cond.constant "ShareTickets$Tree" (31 : Nat) (1000000 : Int32) ∈ a_GT := a_inT (a_t_1 (List.mem_of_getElem? (i := 49) (by decide +kernel))) rfl
theorem k_50 : Cond.fieldLink "ShareTickets$Tree" (27 : Nat) "ShareTickets$Tree" "size" "I" ∈ a_GT := a_inT (a_t_1 (List.mem_of_getElem? (i := 50) (by decide +kernel))) rfl
theorem k_51 : Cond.fieldLink "ShareTickets$Scale" (44 : Nat) "ShareTickets$Tree" "size" "I" ∈ a_GT := a_inT (a_t_1 (List.mem_of_getElem? (i := 51) (by decide +kernel))) rfl
theorem k_52 : Cond.fieldLink "ShareTickets" (81 : Nat) "ShareTickets$Tree" "size" "I" ∈ a_GT := a_inT (a_t_1 (List.mem_of_getElem? (i := 52) (by decide +kernel))) rfl
theorem k_53 : Cond.fieldLink "ShareTickets$Text" (101 : Nat) "ShareTickets$Tree" "size" "I" ∈ a_GT := a_inT (a_t_1 (List.mem_of_getElem? (i := 53) (by decide +kernel))) rfl
theorem k_54 : Cond.fieldLink "ShareTickets$Place" (202 : Nat) "ShareTickets$Tree" "size" "I" ∈ a_GT := a_inT (a_t_1 (List.mem_of_getElem? (i := 54) (by decide +kernel))) rfl
theorem k_55 : Cond.fieldLink "ShareTickets$Tree" (9 : Nat) "ShareTickets$Tree" "parent" "[I" ∈ a_GT := a_inT (a_t_1 (List.mem_of_getElem? (i := 55) (by decide +kernel))) rfl
theorem k_56 : Cond.fieldLink "ShareTickets" (145 : Nat) "ShareTickets$Tree" "parent" "[I" ∈ a_GT := a_inT (a_t_1 (List.mem_of_getElem? (i := 56) (by decide +kernel))) rfl
theorem k_57 : Cond.fieldLink "ShareTickets$Tree" (15 : Nat) "ShareTickets$Tree" "shares" "[I" ∈ a_GT := a_inT (a_t_1 (List.mem_of_getElem? (i := 57) (by decide +kernel))) rfl
theorem k_58 : Cond.fieldLink "ShareTickets" (148 : Nat) "ShareTickets$Tree" "shares" "[I" ∈ a_GT := a_inT (a_t_1 (List.mem_of_getElem? (i := 58) (by decide +kernel))) rfl
theorem k_59 : Cond.fieldLink "ShareTickets$Tree" (18 : Nat) "ShareTickets$Tree" "use" "[I" ∈ a_GT := a_inT (a_t_1 (List.mem_of_getElem? (i := 59) (by decide +kernel))) rfl
theorem k_60 : Cond.fieldLink "ShareTickets$Scale" (117 : Nat) "ShareTickets$Tree" "use" "[I" ∈ a_GT := a_inT (a_t_1 (List.mem_of_getElem? (i := 60) (by decide +kernel))) rfl
theorem k_61 : Cond.fieldLink "ShareTickets" (160 : Nat) "ShareTickets$Tree" "use" "[I" ∈ a_GT := a_inT (a_t_1 (List.mem_of_getElem? (i := 61) (by decide +kernel))) rfl
theorem k_62 : Cond.fieldLink "ShareTickets$Tree" (21 : Nat) "ShareTickets$Tree" "base" "[I" ∈ a_GT := a_inT (a_t_1 (List.mem_of_getElem? (i := 62) (by decide +kernel))) rfl
theorem k_63 : Cond.fieldLink "ShareTickets$Scale" (85 : Nat) "ShareTickets$Tree" "base" "[I" ∈ a_GT := a_inT (a_t_1 (List.mem_of_getElem? (i := 63) (by decide +kernel))) rfl
theorem k_64 : Cond.fieldLink "ShareTickets" (154 : Nat) "ShareTickets$Tree" "base" "[I" ∈ a_GT := a_inT (a_t_1 (List.mem_of_getElem? (i := 64) (by decide +kernel))) rfl
theorem k_65 : Cond.lays "ShareTickets$Tree" "ShareTickets$Tree" "size" "I" ∈ a_GT := a_inT (a_t_1 (List.mem_of_getElem? (i := 65) (by decide +kernel))) rfl
theorem k_67 : Cond.laysFinal "ShareTickets$Tree" "ShareTickets$Tree" "parent" "[I" ∈ a_GT := a_inT (a_t_1 (List.mem_of_getElem? (i := 67) (by decide +kernel))) rfl
theorem k_69 : Cond.laysFinal "ShareTickets$Tree" "ShareTickets$Tree" "shares" "[I" ∈ a_GT := a_inT (a_t_1 (List.mem_of_getElem? (i := 69) (by decide +kernel))) rfl
theorem k_71 : Cond.laysFinal "ShareTickets$Tree" "ShareTickets$Tree" "use" "[I" ∈ a_GT := a_inT (a_t_1 (List.mem_of_getElem? (i := 71) (by decide +kernel))) rfl
theorem k_73 : Cond.laysFinal "ShareTickets$Tree" "ShareTickets$Tree" "base" "[I" ∈ a_GT := a_inT (a_t_1 (List.mem_of_getElem? (i := 73) (by decide +kernel))) rfl
theorem k_75 : Cond.superclass "ShareTickets$Tree" "java/lang/Object" ∈ a_GT := a_inT (a_t_1 (List.mem_of_getElem? (i := 75) (by decide +kernel))) rfl
theorem k_76 : Cond.arrayClass ClassFile.FieldType.int ∈ a_GT := a_inT (a_t_1 (List.mem_of_getElem? (i := 76) (by decide +kernel))) rfl
theorem k_77 : Cond.classLink "ShareTickets$Place" (18 : Nat) "ShareTickets$Loans" ∈ a_GT := a_inT (a_t_1 (List.mem_of_getElem? (i := 77) (by decide +kernel))) rfl
theorem k_78 : Cond.instantiable "ShareTickets$Loans" (6 : Nat) ∈ a_GT := a_inT (a_t_1 (List.mem_of_getElem? (i := 78) (by decide +kernel))) rfl
theorem g_79 : Cond.methodLinkNest "ShareTickets$Place" (20 : Nat) ({ cls := "ShareTickets$Loans", name := "<init>", desc := "()V" } : MethodName) "ShareTickets" ∈ a_GN := a_inN (a_t_1 (List.mem_of_getElem? (i := 79) (by decide +kernel))) rfl
theorem k_80 : Cond.instanceMethod ({ cls := "ShareTickets$Loans", name := "<init>", desc := "()V" } : MethodName) ∈ a_GT := a_inT (a_t_1 (List.mem_of_getElem? (i := 80) (by decide +kernel))) rfl
theorem k_81 : Cond.code ({ cls := "ShareTickets$Loans", name := "<init>", desc := "()V" } : MethodName) prog_4_method_1_code (1 : Nat) (Option.none : Option ClassFile.FieldType) ∈ a_GT := a_inT (a_t_1 (List.mem_of_getElem? (i := 81) (by decide +kernel))) rfl
theorem k_82 : Cond.methodLink "ShareTickets$Loans" (3 : Nat) ({ cls := "java/lang/Object", name := "<init>", desc := "()V" } : MethodName) ∈ a_GT := a_inT (a_t_1 (List.mem_of_getElem? (i := 82) (by decide +kernel))) rfl
theorem k_83 : Cond.fieldLink "ShareTickets$Loans" (27 : Nat) "ShareTickets$Loans" "size" "I" ∈ a_GT := a_inT (a_t_1 (List.mem_of_getElem? (i := 83) (by decide +kernel))) rfl
theorem k_84 : Cond.fieldLink "ShareTickets$Scale" (94 : Nat) "ShareTickets$Loans" "size" "I" ∈ a_GT := a_inT (a_t_1 (List.mem_of_getElem? (i := 84) (by decide +kernel))) rfl
theorem k_85 : Cond.fieldLink "ShareTickets" (107 : Nat) "ShareTickets$Loans" "size" "I" ∈ a_GT := a_inT (a_t_1 (List.mem_of_getElem? (i := 85) (by decide +kernel))) rfl
theorem k_86 : Cond.fieldLink "ShareTickets$Loans" (9 : Nat) "ShareTickets$Loans" "from" "[I" ∈ a_GT := a_inT (a_t_1 (List.mem_of_getElem? (i := 86) (by decide +kernel))) rfl
theorem k_87 : Cond.fieldLink "ShareTickets$Scale" (97 : Nat) "ShareTickets$Loans" "from" "[I" ∈ a_GT := a_inT (a_t_1 (List.mem_of_getElem? (i := 87) (by decide +kernel))) rfl
theorem k_88 : Cond.fieldLink "ShareTickets" (219 : Nat) "ShareTickets$Loans" "from" "[I" ∈ a_GT := a_inT (a_t_1 (List.mem_of_getElem? (i := 88) (by decide +kernel))) rfl
theorem k_89 : Cond.fieldLink "ShareTickets$Loans" (15 : Nat) "ShareTickets$Loans" "to" "[I" ∈ a_GT := a_inT (a_t_1 (List.mem_of_getElem? (i := 89) (by decide +kernel))) rfl
theorem k_90 : Cond.fieldLink "ShareTickets$Scale" (100 : Nat) "ShareTickets$Loans" "to" "[I" ∈ a_GT := a_inT (a_t_1 (List.mem_of_getElem? (i := 90) (by decide +kernel))) rfl
theorem k_91 : Cond.fieldLink "ShareTickets" (222 : Nat) "ShareTickets$Loans" "to" "[I" ∈ a_GT := a_inT (a_t_1 (List.mem_of_getElem? (i := 91) (by decide +kernel))) rfl
theorem k_92 : Cond.fieldLink "ShareTickets$Loans" (18 : Nat) "ShareTickets$Loans" "tickets" "[I" ∈ a_GT := a_inT (a_t_1 (List.mem_of_getElem? (i := 92) (by decide +kernel))) rfl
theorem k_93 : Cond.fieldLink "ShareTickets$Scale" (110 : Nat) "ShareTickets$Loans" "tickets" "[I" ∈ a_GT := a_inT (a_t_1 (List.mem_of_getElem? (i := 93) (by decide +kernel))) rfl
theorem k_94 : Cond.fieldLink "ShareTickets" (225 : Nat) "ShareTickets$Loans" "tickets" "[I" ∈ a_GT := a_inT (a_t_1 (List.mem_of_getElem? (i := 94) (by decide +kernel))) rfl
theorem k_95 : Cond.fieldLink "ShareTickets$Loans" (21 : Nat) "ShareTickets$Loans" "begin" "[I" ∈ a_GT := a_inT (a_t_1 (List.mem_of_getElem? (i := 95) (by decide +kernel))) rfl
theorem k_96 : Cond.fieldLink "ShareTickets$Loans" (24 : Nat) "ShareTickets$Loans" "ticks" "[I" ∈ a_GT := a_inT (a_t_1 (List.mem_of_getElem? (i := 96) (by decide +kernel))) rfl
theorem k_97 : Cond.lays "ShareTickets$Loans" "ShareTickets$Loans" "size" "I" ∈ a_GT := a_inT (a_t_1 (List.mem_of_getElem? (i := 97) (by decide +kernel))) rfl
theorem k_99 : Cond.laysFinal "ShareTickets$Loans" "ShareTickets$Loans" "from" "[I" ∈ a_GT := a_inT (a_t_1 (List.mem_of_getElem? (i := 99) (by decide +kernel))) rfl
theorem k_101 : Cond.laysFinal "ShareTickets$Loans" "ShareTickets$Loans" "to" "[I" ∈ a_GT := a_inT (a_t_1 (List.mem_of_getElem? (i := 101) (by decide +kernel))) rfl
theorem k_103 : Cond.laysFinal "ShareTickets$Loans" "ShareTickets$Loans" "tickets" "[I" ∈ a_GT := a_inT (a_t_1 (List.mem_of_getElem? (i := 103) (by decide +kernel))) rfl
theorem k_105 : Cond.laysFinal "ShareTickets$Loans" "ShareTickets$Loans" "begin" "[I" ∈ a_GT := a_inT (a_t_1 (List.mem_of_getElem? (i := 105) (by decide +kernel))) rfl
theorem k_107 : Cond.laysFinal "ShareTickets$Loans" "ShareTickets$Loans" "ticks" "[I" ∈ a_GT := a_inT (a_t_1 (List.mem_of_getElem? (i := 107) (by decide +kernel))) rfl
theorem k_109 : Cond.superclass "ShareTickets$Loans" "java/lang/Object" ∈ a_GT := a_inT (a_t_1 (List.mem_of_getElem? (i := 109) (by decide +kernel))) rfl
theorem k_110 : Cond.classLink "ShareTickets$Place" (25 : Nat) "ShareTickets$Machines" ∈ a_GT := a_inT (a_t_1 (List.mem_of_getElem? (i := 110) (by decide +kernel))) rfl
theorem k_111 : Cond.instantiable "ShareTickets$Machines" (3 : Nat) ∈ a_GT := a_inT (a_t_1 (List.mem_of_getElem? (i := 111) (by decide +kernel))) rfl
theorem g_112 : Cond.methodLinkNest "ShareTickets$Place" (27 : Nat) ({ cls := "ShareTickets$Machines", name := "<init>", desc := "()V" } : MethodName) "ShareTickets" ∈ a_GN := a_inN (a_t_1 (List.mem_of_getElem? (i := 112) (by decide +kernel))) rfl
theorem k_113 : Cond.instanceMethod ({ cls := "ShareTickets$Machines", name := "<init>", desc := "()V" } : MethodName) ∈ a_GT := a_inT (a_t_1 (List.mem_of_getElem? (i := 113) (by decide +kernel))) rfl
theorem k_114 : Cond.code ({ cls := "ShareTickets$Machines", name := "<init>", desc := "()V" } : MethodName) prog_5_method_1_code (1 : Nat) (Option.none : Option ClassFile.FieldType) ∈ a_GT := a_inT (a_t_1 (List.mem_of_getElem? (i := 114) (by decide +kernel))) rfl
theorem k_115 : Cond.methodLink "ShareTickets$Machines" (3 : Nat) ({ cls := "java/lang/Object", name := "<init>", desc := "()V" } : MethodName) ∈ a_GT := a_inT (a_t_1 (List.mem_of_getElem? (i := 115) (by decide +kernel))) rfl
theorem k_116 : Cond.fieldLink "ShareTickets$Machines" (18 : Nat) "ShareTickets$Machines" "size" "I" ∈ a_GT := a_inT (a_t_1 (List.mem_of_getElem? (i := 116) (by decide +kernel))) rfl
theorem k_117 : Cond.fieldLink "ShareTickets" (93 : Nat) "ShareTickets$Machines" "size" "I" ∈ a_GT := a_inT (a_t_1 (List.mem_of_getElem? (i := 117) (by decide +kernel))) rfl
theorem k_118 : Cond.fieldLink "ShareTickets$Place" (107 : Nat) "ShareTickets$Machines" "size" "I" ∈ a_GT := a_inT (a_t_1 (List.mem_of_getElem? (i := 118) (by decide +kernel))) rfl
theorem k_119 : Cond.fieldLink "ShareTickets$Machines" (9 : Nat) "ShareTickets$Machines" "slots" "[I" ∈ a_GT := a_inT (a_t_1 (List.mem_of_getElem? (i := 119) (by decide +kernel))) rfl
theorem k_120 : Cond.fieldLink "ShareTickets$Place" (117 : Nat) "ShareTickets$Machines" "slots" "[I" ∈ a_GT := a_inT (a_t_1 (List.mem_of_getElem? (i := 120) (by decide +kernel))) rfl
theorem k_121 : Cond.fieldLink "ShareTickets" (251 : Nat) "ShareTickets$Machines" "slots" "[I" ∈ a_GT := a_inT (a_t_1 (List.mem_of_getElem? (i := 121) (by decide +kernel))) rfl
theorem k_122 : Cond.fieldLink "ShareTickets$Machines" (15 : Nat) "ShareTickets$Machines" "up" "[I" ∈ a_GT := a_inT (a_t_1 (List.mem_of_getElem? (i := 122) (by decide +kernel))) rfl
theorem k_123 : Cond.lays "ShareTickets$Machines" "ShareTickets$Machines" "size" "I" ∈ a_GT := a_inT (a_t_1 (List.mem_of_getElem? (i := 123) (by decide +kernel))) rfl
theorem k_125 : Cond.laysFinal "ShareTickets$Machines" "ShareTickets$Machines" "slots" "[I" ∈ a_GT := a_inT (a_t_1 (List.mem_of_getElem? (i := 125) (by decide +kernel))) rfl
theorem k_127 : Cond.laysFinal "ShareTickets$Machines" "ShareTickets$Machines" "up" "[I" ∈ a_GT := a_inT (a_t_1 (List.mem_of_getElem? (i := 127) (by decide +kernel))) rfl
theorem k_129 : Cond.superclass "ShareTickets$Machines" "java/lang/Object" ∈ a_GT := a_inT (a_t_1 (List.mem_of_getElem? (i := 129) (by decide +kernel))) rfl
theorem k_130 : Cond.classLink "ShareTickets$Place" (32 : Nat) "ShareTickets$Jobs" ∈ a_GT := a_inT (a_t_1 (List.mem_of_getElem? (i := 130) (by decide +kernel))) rfl
theorem k_131 : Cond.instantiable "ShareTickets$Jobs" (8 : Nat) ∈ a_GT := a_inT (a_t_1 (List.mem_of_getElem? (i := 131) (by decide +kernel))) rfl
theorem g_132 : Cond.methodLinkNest "ShareTickets$Place" (34 : Nat) ({ cls := "ShareTickets$Jobs", name := "<init>", desc := "()V" } : MethodName) "ShareTickets" ∈ a_GN := a_inN (a_t_1 (List.mem_of_getElem? (i := 132) (by decide +kernel))) rfl
theorem k_133 : Cond.instanceMethod ({ cls := "ShareTickets$Jobs", name := "<init>", desc := "()V" } : MethodName) ∈ a_GT := a_inT (a_t_1 (List.mem_of_getElem? (i := 133) (by decide +kernel))) rfl
theorem k_134 : Cond.code ({ cls := "ShareTickets$Jobs", name := "<init>", desc := "()V" } : MethodName) prog_3_method_1_code (1 : Nat) (Option.none : Option ClassFile.FieldType) ∈ a_GT := a_inT (a_t_1 (List.mem_of_getElem? (i := 134) (by decide +kernel))) rfl
theorem k_135 : Cond.methodLink "ShareTickets$Jobs" (3 : Nat) ({ cls := "java/lang/Object", name := "<init>", desc := "()V" } : MethodName) ∈ a_GT := a_inT (a_t_1 (List.mem_of_getElem? (i := 135) (by decide +kernel))) rfl
theorem k_136 : Cond.fieldLink "ShareTickets$Jobs" (33 : Nat) "ShareTickets$Jobs" "size" "I" ∈ a_GT := a_inT (a_t_1 (List.mem_of_getElem? (i := 136) (by decide +kernel))) rfl
theorem k_137 : Cond.fieldLink "ShareTickets$Scale" (58 : Nat) "ShareTickets$Jobs" "size" "I" ∈ a_GT := a_inT (a_t_1 (List.mem_of_getElem? (i := 137) (by decide +kernel))) rfl
theorem k_138 : Cond.fieldLink "ShareTickets$Note" (37 : Nat) "ShareTickets$Jobs" "size" "I" ∈ a_GT := a_inT (a_t_1 (List.mem_of_getElem? (i := 138) (by decide +kernel))) rfl
theorem k_139 : Cond.fieldLink "ShareTickets" (100 : Nat) "ShareTickets$Jobs" "size" "I" ∈ a_GT := a_inT (a_t_1 (List.mem_of_getElem? (i := 139) (by decide +kernel))) rfl
theorem k_140 : Cond.fieldLink "ShareTickets$Place" (120 : Nat) "ShareTickets$Jobs" "size" "I" ∈ a_GT := a_inT (a_t_1 (List.mem_of_getElem? (i := 140) (by decide +kernel))) rfl
theorem k_141 : Cond.fieldLink "ShareTickets$Jobs" (9 : Nat) "ShareTickets$Jobs" "leaf" "[I" ∈ a_GT := a_inT (a_t_1 (List.mem_of_getElem? (i := 141) (by decide +kernel))) rfl
theorem k_142 : Cond.fieldLink "ShareTickets$Scale" (61 : Nat) "ShareTickets$Jobs" "leaf" "[I" ∈ a_GT := a_inT (a_t_1 (List.mem_of_getElem? (i := 142) (by decide +kernel))) rfl
theorem k_143 : Cond.fieldLink "ShareTickets$Place" (124 : Nat) "ShareTickets$Jobs" "leaf" "[I" ∈ a_GT := a_inT (a_t_1 (List.mem_of_getElem? (i := 143) (by decide +kernel))) rfl
theorem k_144 : Cond.fieldLink "ShareTickets" (268 : Nat) "ShareTickets$Jobs" "leaf" "[I" ∈ a_GT := a_inT (a_t_1 (List.mem_of_getElem? (i := 144) (by decide +kernel))) rfl
theorem k_145 : Cond.fieldLink "ShareTickets$Jobs" (15 : Nat) "ShareTickets$Jobs" "length" "[I" ∈ a_GT := a_inT (a_t_1 (List.mem_of_getElem? (i := 145) (by decide +kernel))) rfl
theorem k_146 : Cond.fieldLink "ShareTickets" (271 : Nat) "ShareTickets$Jobs" "length" "[I" ∈ a_GT := a_inT (a_t_1 (List.mem_of_getElem? (i := 146) (by decide +kernel))) rfl
theorem k_147 : Cond.fieldLink "ShareTickets$Place" (192 : Nat) "ShareTickets$Jobs" "length" "[I" ∈ a_GT := a_inT (a_t_1 (List.mem_of_getElem? (i := 147) (by decide +kernel))) rfl
theorem k_148 : Cond.fieldLink "ShareTickets$Jobs" (18 : Nat) "ShareTickets$Jobs" "work" "[I" ∈ a_GT := a_inT (a_t_1 (List.mem_of_getElem? (i := 148) (by decide +kernel))) rfl
theorem k_149 : Cond.fieldLink "ShareTickets$Place" (148 : Nat) "ShareTickets$Jobs" "work" "[I" ∈ a_GT := a_inT (a_t_1 (List.mem_of_getElem? (i := 149) (by decide +kernel))) rfl
theorem k_150 : Cond.fieldLink "ShareTickets" (274 : Nat) "ShareTickets$Jobs" "work" "[I" ∈ a_GT := a_inT (a_t_1 (List.mem_of_getElem? (i := 150) (by decide +kernel))) rfl
theorem k_151 : Cond.fieldLink "ShareTickets$Jobs" (21 : Nat) "ShareTickets$Jobs" "state" "[I" ∈ a_GT := a_inT (a_t_1 (List.mem_of_getElem? (i := 151) (by decide +kernel))) rfl
theorem k_152 : Cond.fieldLink "ShareTickets$Scale" (71 : Nat) "ShareTickets$Jobs" "state" "[I" ∈ a_GT := a_inT (a_t_1 (List.mem_of_getElem? (i := 152) (by decide +kernel))) rfl
theorem k_153 : Cond.fieldLink "ShareTickets$Place" (121 : Nat) "ShareTickets$Jobs" "state" "[I" ∈ a_GT := a_inT (a_t_1 (List.mem_of_getElem? (i := 153) (by decide +kernel))) rfl
theorem k_154 : Cond.fieldLink "ShareTickets" (277 : Nat) "ShareTickets$Jobs" "state" "[I" ∈ a_GT := a_inT (a_t_1 (List.mem_of_getElem? (i := 154) (by decide +kernel))) rfl
theorem k_155 : Cond.fieldLink "ShareTickets$Jobs" (24 : Nat) "ShareTickets$Jobs" "machine" "[I" ∈ a_GT := a_inT (a_t_1 (List.mem_of_getElem? (i := 155) (by decide +kernel))) rfl
theorem k_156 : Cond.fieldLink "ShareTickets$Scale" (64 : Nat) "ShareTickets$Jobs" "machine" "[I" ∈ a_GT := a_inT (a_t_1 (List.mem_of_getElem? (i := 156) (by decide +kernel))) rfl
theorem k_157 : Cond.fieldLink "ShareTickets$Place" (155 : Nat) "ShareTickets$Jobs" "machine" "[I" ∈ a_GT := a_inT (a_t_1 (List.mem_of_getElem? (i := 157) (by decide +kernel))) rfl
theorem k_158 : Cond.fieldLink "ShareTickets" (280 : Nat) "ShareTickets$Jobs" "machine" "[I" ∈ a_GT := a_inT (a_t_1 (List.mem_of_getElem? (i := 158) (by decide +kernel))) rfl
theorem k_159 : Cond.fieldLink "ShareTickets$Jobs" (27 : Nat) "ShareTickets$Jobs" "ended" "[I" ∈ a_GT := a_inT (a_t_1 (List.mem_of_getElem? (i := 159) (by decide +kernel))) rfl
theorem k_160 : Cond.fieldLink "ShareTickets" (283 : Nat) "ShareTickets$Jobs" "ended" "[I" ∈ a_GT := a_inT (a_t_1 (List.mem_of_getElem? (i := 160) (by decide +kernel))) rfl
theorem k_161 : Cond.fieldLink "ShareTickets$Jobs" (30 : Nat) "ShareTickets$Jobs" "waited" "[I" ∈ a_GT := a_inT (a_t_1 (List.mem_of_getElem? (i := 161) (by decide +kernel))) rfl
theorem k_162 : Cond.fieldLink "ShareTickets" (286 : Nat) "ShareTickets$Jobs" "waited" "[I" ∈ a_GT := a_inT (a_t_1 (List.mem_of_getElem? (i := 162) (by decide +kernel))) rfl
theorem k_163 : Cond.fieldLink "ShareTickets$Place" (199 : Nat) "ShareTickets$Jobs" "waited" "[I" ∈ a_GT := a_inT (a_t_1 (List.mem_of_getElem? (i := 163) (by decide +kernel))) rfl
theorem k_164 : Cond.lays "ShareTickets$Jobs" "ShareTickets$Jobs" "size" "I" ∈ a_GT := a_inT (a_t_1 (List.mem_of_getElem? (i := 164) (by decide +kernel))) rfl
theorem k_166 : Cond.laysFinal "ShareTickets$Jobs" "ShareTickets$Jobs" "leaf" "[I" ∈ a_GT := a_inT (a_t_1 (List.mem_of_getElem? (i := 166) (by decide +kernel))) rfl
theorem k_168 : Cond.laysFinal "ShareTickets$Jobs" "ShareTickets$Jobs" "length" "[I" ∈ a_GT := a_inT (a_t_1 (List.mem_of_getElem? (i := 168) (by decide +kernel))) rfl
theorem k_170 : Cond.laysFinal "ShareTickets$Jobs" "ShareTickets$Jobs" "work" "[I" ∈ a_GT := a_inT (a_t_1 (List.mem_of_getElem? (i := 170) (by decide +kernel))) rfl
theorem k_172 : Cond.laysFinal "ShareTickets$Jobs" "ShareTickets$Jobs" "state" "[I" ∈ a_GT := a_inT (a_t_1 (List.mem_of_getElem? (i := 172) (by decide +kernel))) rfl
theorem k_174 : Cond.laysFinal "ShareTickets$Jobs" "ShareTickets$Jobs" "machine" "[I" ∈ a_GT := a_inT (a_t_1 (List.mem_of_getElem? (i := 174) (by decide +kernel))) rfl
theorem k_176 : Cond.laysFinal "ShareTickets$Jobs" "ShareTickets$Jobs" "ended" "[I" ∈ a_GT := a_inT (a_t_1 (List.mem_of_getElem? (i := 176) (by decide +kernel))) rfl
theorem k_178 : Cond.laysFinal "ShareTickets$Jobs" "ShareTickets$Jobs" "waited" "[I" ∈ a_GT := a_inT (a_t_1 (List.mem_of_getElem? (i := 178) (by decide +kernel))) rfl
theorem k_180 : Cond.superclass "ShareTickets$Jobs" "java/lang/Object" ∈ a_GT := a_inT (a_t_1 (List.mem_of_getElem? (i := 180) (by decide +kernel))) rfl
theorem k_181 : Cond.classLink "ShareTickets$Place" (39 : Nat) "ShareTickets$Scale" ∈ a_GT := a_inT (a_t_1 (List.mem_of_getElem? (i := 181) (by decide +kernel))) rfl
theorem k_182 : Cond.instantiable "ShareTickets$Scale" (6 : Nat) ∈ a_GT := a_inT (a_t_1 (List.mem_of_getElem? (i := 182) (by decide +kernel))) rfl
theorem g_183 : Cond.methodLinkNest "ShareTickets$Place" (41 : Nat) ({ cls := "ShareTickets$Scale", name := "<init>", desc := "()V" } : MethodName) "ShareTickets" ∈ a_GN := a_inN (a_t_1 (List.mem_of_getElem? (i := 183) (by decide +kernel))) rfl
theorem k_184 : Cond.instanceMethod ({ cls := "ShareTickets$Scale", name := "<init>", desc := "()V" } : MethodName) ∈ a_GT := a_inT (a_t_1 (List.mem_of_getElem? (i := 184) (by decide +kernel))) rfl
theorem k_185 : Cond.code ({ cls := "ShareTickets$Scale", name := "<init>", desc := "()V" } : MethodName) prog_8_method_1_code (1 : Nat) (Option.none : Option ClassFile.FieldType) ∈ a_GT := a_inT (a_t_1 (List.mem_of_getElem? (i := 185) (by decide +kernel))) rfl
theorem k_186 : Cond.methodLink "ShareTickets$Scale" (3 : Nat) ({ cls := "java/lang/Object", name := "<init>", desc := "()V" } : MethodName) ∈ a_GT := a_inT (a_t_1 (List.mem_of_getElem? (i := 186) (by decide +kernel))) rfl
theorem k_187 : Cond.fieldLink "ShareTickets$Scale" (9 : Nat) "ShareTickets$Scale" "load" "[I" ∈ a_GT := a_inT (a_t_1 (List.mem_of_getElem? (i := 187) (by decide +kernel))) rfl
theorem k_188 : Cond.fieldLink "ShareTickets" (167 : Nat) "ShareTickets$Scale" "load" "[I" ∈ a_GT := a_inT (a_t_1 (List.mem_of_getElem? (i := 188) (by decide +kernel))) rfl
theorem k_189 : Cond.fieldLink "ShareTickets$Scale" (15 : Nat) "ShareTickets$Scale" "waiting" "[I" ∈ a_GT := a_inT (a_t_1 (List.mem_of_getElem? (i := 189) (by decide +kernel))) rfl
theorem k_190 : Cond.fieldLink "ShareTickets" (170 : Nat) "ShareTickets$Scale" "waiting" "[I" ∈ a_GT := a_inT (a_t_1 (List.mem_of_getElem? (i := 190) (by decide +kernel))) rfl
theorem k_191 : Cond.fieldLink "ShareTickets$Scale" (18 : Nat) "ShareTickets$Scale" "tickets" "[I" ∈ a_GT := a_inT (a_t_1 (List.mem_of_getElem? (i := 191) (by decide +kernel))) rfl
theorem k_192 : Cond.fieldLink "ShareTickets" (157 : Nat) "ShareTickets$Scale" "tickets" "[I" ∈ a_GT := a_inT (a_t_1 (List.mem_of_getElem? (i := 192) (by decide +kernel))) rfl
theorem k_193 : Cond.fieldLink "ShareTickets$Scale" (21 : Nat) "ShareTickets$Scale" "busy" "[I" ∈ a_GT := a_inT (a_t_1 (List.mem_of_getElem? (i := 193) (by decide +kernel))) rfl
theorem k_194 : Cond.fieldLink "ShareTickets$Place" (114 : Nat) "ShareTickets$Scale" "busy" "[I" ∈ a_GT := a_inT (a_t_1 (List.mem_of_getElem? (i := 194) (by decide +kernel))) rfl
theorem k_195 : Cond.fieldLink "ShareTickets" (257 : Nat) "ShareTickets$Scale" "busy" "[I" ∈ a_GT := a_inT (a_t_1 (List.mem_of_getElem? (i := 195) (by decide +kernel))) rfl
theorem k_196 : Cond.fieldLink "ShareTickets$Scale" (24 : Nat) "ShareTickets$Scale" "nextWorth" "[J" ∈ a_GT := a_inT (a_t_1 (List.mem_of_getElem? (i := 196) (by decide +kernel))) rfl
theorem k_197 : Cond.fieldLink "ShareTickets$Scale" (28 : Nat) "ShareTickets$Scale" "nowWorth" "[J" ∈ a_GT := a_inT (a_t_1 (List.mem_of_getElem? (i := 197) (by decide +kernel))) rfl
theorem k_198 : Cond.laysFinal "ShareTickets$Scale" "ShareTickets$Scale" "load" "[I" ∈ a_GT := a_inT (a_t_1 (List.mem_of_getElem? (i := 198) (by decide +kernel))) rfl
theorem k_200 : Cond.laysFinal "ShareTickets$Scale" "ShareTickets$Scale" "waiting" "[I" ∈ a_GT := a_inT (a_t_1 (List.mem_of_getElem? (i := 200) (by decide +kernel))) rfl
theorem k_202 : Cond.laysFinal "ShareTickets$Scale" "ShareTickets$Scale" "tickets" "[I" ∈ a_GT := a_inT (a_t_1 (List.mem_of_getElem? (i := 202) (by decide +kernel))) rfl
theorem k_204 : Cond.laysFinal "ShareTickets$Scale" "ShareTickets$Scale" "busy" "[I" ∈ a_GT := a_inT (a_t_1 (List.mem_of_getElem? (i := 204) (by decide +kernel))) rfl
theorem k_206 : Cond.laysFinal "ShareTickets$Scale" "ShareTickets$Scale" "nextWorth" "[J" ∈ a_GT := a_inT (a_t_1 (List.mem_of_getElem? (i := 206) (by decide +kernel))) rfl
theorem k_208 : Cond.laysFinal "ShareTickets$Scale" "ShareTickets$Scale" "nowWorth" "[J" ∈ a_GT := a_inT (a_t_1 (List.mem_of_getElem? (i := 208) (by decide +kernel))) rfl
theorem k_210 : Cond.superclass "ShareTickets$Scale" "java/lang/Object" ∈ a_GT := a_inT (a_t_1 (List.mem_of_getElem? (i := 210) (by decide +kernel))) rfl
theorem k_211 : Cond.arrayClass ClassFile.FieldType.long ∈ a_GT := a_inT (a_t_1 (List.mem_of_getElem? (i := 211) (by decide +kernel))) rfl
theorem k_212 : Cond.methodLink "ShareTickets$Place" (50 : Nat) ({ cls := "ShareTickets$Place", name := "clear", desc := "()V" } : MethodName) ∈ a_GT := a_inT (a_t_1 (List.mem_of_getElem? (i := 212) (by decide +kernel))) rfl
theorem k_213 : Cond.instanceMethod ({ cls := "ShareTickets$Place", name := "clear", desc := "()V" } : MethodName) ∈ a_GT := a_inT (a_t_1 (List.mem_of_getElem? (i := 213) (by decide +kernel))) rfl
theorem k_214 : Cond.selects "ShareTickets$Place" ({ cls := "ShareTickets$Place", name := "clear", desc := "()V" } : MethodName) ({ cls := "ShareTickets$Place", name := "clear", desc := "()V" } : MethodName) ∈ a_GT := a_inT (a_t_1 (List.mem_of_getElem? (i := 214) (by decide +kernel))) rfl
theorem k_215 : Cond.code ({ cls := "ShareTickets$Place", name := "clear", desc := "()V" } : MethodName) prog_7_method_2_code (1 : Nat) (Option.none : Option ClassFile.FieldType) ∈ a_GT := a_inT (a_t_1 (List.mem_of_getElem? (i := 215) (by decide +kernel))) rfl
theorem k_216 : Cond.methodLink "ShareTickets$Place" (53 : Nat) ({ cls := "ShareTickets$Tree", name := "clear", desc := "()V" } : MethodName) ∈ a_GT := a_inT (a_t_1 (List.mem_of_getElem? (i := 216) (by decide +kernel))) rfl
theorem k_217 : Cond.methodLink "ShareTickets$Place" (54 : Nat) ({ cls := "ShareTickets$Loans", name := "clear", desc := "()V" } : MethodName) ∈ a_GT := a_inT (a_t_1 (List.mem_of_getElem? (i := 217) (by decide +kernel))) rfl
theorem k_218 : Cond.instanceMethod ({ cls := "ShareTickets$Loans", name := "clear", desc := "()V" } : MethodName) ∈ a_GT := a_inT (a_t_1 (List.mem_of_getElem? (i := 218) (by decide +kernel))) rfl
theorem k_219 : Cond.selects "ShareTickets$Loans" ({ cls := "ShareTickets$Loans", name := "clear", desc := "()V" } : MethodName) ({ cls := "ShareTickets$Loans", name := "clear", desc := "()V" } : MethodName) ∈ a_GT := a_inT (a_t_1 (List.mem_of_getElem? (i := 219) (by decide +kernel))) rfl
theorem k_220 : Cond.code ({ cls := "ShareTickets$Loans", name := "clear", desc := "()V" } : MethodName) prog_4_method_2_code (1 : Nat) (Option.none : Option ClassFile.FieldType) ∈ a_GT := a_inT (a_t_1 (List.mem_of_getElem? (i := 220) (by decide +kernel))) rfl
theorem k_221 : Cond.methodLink "ShareTickets$Place" (55 : Nat) ({ cls := "ShareTickets$Machines", name := "clear", desc := "()V" } : MethodName) ∈ a_GT := a_inT (a_t_1 (List.mem_of_getElem? (i := 221) (by decide +kernel))) rfl
theorem k_222 : Cond.instanceMethod ({ cls := "ShareTickets$Machines", name := "clear", desc := "()V" } : MethodName) ∈ a_GT := a_inT (a_t_1 (List.mem_of_getElem? (i := 222) (by decide +kernel))) rfl
theorem k_223 : Cond.selects "ShareTickets$Machines" ({ cls := "ShareTickets$Machines", name := "clear", desc := "()V" } : MethodName) ({ cls := "ShareTickets$Machines", name := "clear", desc := "()V" } : MethodName) ∈ a_GT := a_inT (a_t_1 (List.mem_of_getElem? (i := 223) (by decide +kernel))) rfl
theorem k_224 : Cond.code ({ cls := "ShareTickets$Machines", name := "clear", desc := "()V" } : MethodName) prog_5_method_2_code (1 : Nat) (Option.none : Option ClassFile.FieldType) ∈ a_GT := a_inT (a_t_1 (List.mem_of_getElem? (i := 224) (by decide +kernel))) rfl
theorem k_225 : Cond.methodLink "ShareTickets$Place" (56 : Nat) ({ cls := "ShareTickets$Jobs", name := "clear", desc := "()V" } : MethodName) ∈ a_GT := a_inT (a_t_1 (List.mem_of_getElem? (i := 225) (by decide +kernel))) rfl
theorem k_226 : Cond.instanceMethod ({ cls := "ShareTickets$Jobs", name := "clear", desc := "()V" } : MethodName) ∈ a_GT := a_inT (a_t_1 (List.mem_of_getElem? (i := 226) (by decide +kernel))) rfl
theorem k_227 : Cond.selects "ShareTickets$Jobs" ({ cls := "ShareTickets$Jobs", name := "clear", desc := "()V" } : MethodName) ({ cls := "ShareTickets$Jobs", name := "clear", desc := "()V" } : MethodName) ∈ a_GT := a_inT (a_t_1 (List.mem_of_getElem? (i := 227) (by decide +kernel))) rfl
theorem k_228 : Cond.code ({ cls := "ShareTickets$Jobs", name := "clear", desc := "()V" } : MethodName) prog_3_method_2_code (1 : Nat) (Option.none : Option ClassFile.FieldType) ∈ a_GT := a_inT (a_t_1 (List.mem_of_getElem? (i := 228) (by decide +kernel))) rfl
theorem g_229 : Cond.fieldLinkNest "ShareTickets$Place" (57 : Nat) "ShareTickets" "FIRST_SETTING" "[I" "ShareTickets" ∈ a_GN := a_inN (a_t_1 (List.mem_of_getElem? (i := 229) (by decide +kernel))) rfl
theorem k_231 : Cond.methodLink "ShareTickets$Place" (60 : Nat) ({ cls := "java/lang/System", name := "arraycopy", desc := "(Ljava/lang/Object;ILjava/lang/Object;II)V" } : MethodName) ∈ a_GT := a_inT (a_t_1 (List.mem_of_getElem? (i := 231) (by decide +kernel))) rfl
theorem k_232 : Cond.static ({ cls := "java/lang/System", name := "arraycopy", desc := "(Ljava/lang/Object;ILjava/lang/Object;II)V" } : MethodName) ∈ a_GT := a_inT (a_t_1 (List.mem_of_getElem? (i := 232) (by decide +kernel))) rfl
theorem k_233 : Cond.native ({ cls := "java/lang/System", name := "arraycopy", desc := "(Ljava/lang/Object;ILjava/lang/Object;II)V" } : MethodName) ∈ a_GT := a_inT (a_t_1 (List.mem_of_getElem? (i := 233) (by decide +kernel))) rfl
theorem k_234 : Cond.fieldLink "ShareTickets$Place" (12 : Nat) "ShareTickets$Place" "tree" "LShareTickets$Tree;" ∈ a_GT := a_inT (a_t_1 (List.mem_of_getElem? (i := 234) (by decide +kernel))) rfl
theorem k_235 : Cond.fieldLink "ShareTickets$Scale" (38 : Nat) "ShareTickets$Place" "tree" "LShareTickets$Tree;" ∈ a_GT := a_inT (a_t_1 (List.mem_of_getElem? (i := 235) (by decide +kernel))) rfl
theorem k_236 : Cond.fieldLink "ShareTickets" (77 : Nat) "ShareTickets$Place" "tree" "LShareTickets$Tree;" ∈ a_GT := a_inT (a_t_1 (List.mem_of_getElem? (i := 236) (by decide +kernel))) rfl
theorem k_237 : Cond.fieldLink "ShareTickets$Text" (92 : Nat) "ShareTickets$Place" "tree" "LShareTickets$Tree;" ∈ a_GT := a_inT (a_t_1 (List.mem_of_getElem? (i := 237) (by decide +kernel))) rfl
theorem k_238 : Cond.fieldLink "ShareTickets$Place" (21 : Nat) "ShareTickets$Place" "loans" "LShareTickets$Loans;" ∈ a_GT := a_inT (a_t_1 (List.mem_of_getElem? (i := 238) (by decide +kernel))) rfl
theorem k_239 : Cond.fieldLink "ShareTickets$Scale" (81 : Nat) "ShareTickets$Place" "loans" "LShareTickets$Loans;" ∈ a_GT := a_inT (a_t_1 (List.mem_of_getElem? (i := 239) (by decide +kernel))) rfl
theorem k_240 : Cond.fieldLink "ShareTickets" (103 : Nat) "ShareTickets$Place" "loans" "LShareTickets$Loans;" ∈ a_GT := a_inT (a_t_2 (List.mem_of_getElem? (i := 0) (by decide +kernel))) rfl
theorem k_241 : Cond.fieldLink "ShareTickets$Place" (28 : Nat) "ShareTickets$Place" "machines" "LShareTickets$Machines;" ∈ a_GT := a_inT (a_t_2 (List.mem_of_getElem? (i := 1) (by decide +kernel))) rfl
theorem k_242 : Cond.fieldLink "ShareTickets$Scale" (74 : Nat) "ShareTickets$Place" "machines" "LShareTickets$Machines;" ∈ a_GT := a_inT (a_t_2 (List.mem_of_getElem? (i := 2) (by decide +kernel))) rfl
theorem k_243 : Cond.fieldLink "ShareTickets$Note" (17 : Nat) "ShareTickets$Place" "machines" "LShareTickets$Machines;" ∈ a_GT := a_inT (a_t_2 (List.mem_of_getElem? (i := 3) (by decide +kernel))) rfl
theorem k_244 : Cond.fieldLink "ShareTickets" (89 : Nat) "ShareTickets$Place" "machines" "LShareTickets$Machines;" ∈ a_GT := a_inT (a_t_2 (List.mem_of_getElem? (i := 4) (by decide +kernel))) rfl
theorem k_245 : Cond.fieldLink "ShareTickets$Text" (123 : Nat) "ShareTickets$Place" "machines" "LShareTickets$Machines;" ∈ a_GT := a_inT (a_t_2 (List.mem_of_getElem? (i := 5) (by decide +kernel))) rfl
theorem k_246 : Cond.fieldLink "ShareTickets$Place" (35 : Nat) "ShareTickets$Place" "jobs" "LShareTickets$Jobs;" ∈ a_GT := a_inT (a_t_2 (List.mem_of_getElem? (i := 6) (by decide +kernel))) rfl
theorem k_247 : Cond.fieldLink "ShareTickets$Scale" (54 : Nat) "ShareTickets$Place" "jobs" "LShareTickets$Jobs;" ∈ a_GT := a_inT (a_t_2 (List.mem_of_getElem? (i := 7) (by decide +kernel))) rfl
theorem k_248 : Cond.fieldLink "ShareTickets$Note" (33 : Nat) "ShareTickets$Place" "jobs" "LShareTickets$Jobs;" ∈ a_GT := a_inT (a_t_2 (List.mem_of_getElem? (i := 8) (by decide +kernel))) rfl
theorem k_249 : Cond.fieldLink "ShareTickets" (96 : Nat) "ShareTickets$Place" "jobs" "LShareTickets$Jobs;" ∈ a_GT := a_inT (a_t_2 (List.mem_of_getElem? (i := 9) (by decide +kernel))) rfl
theorem k_250 : Cond.fieldLink "ShareTickets$Text" (107 : Nat) "ShareTickets$Place" "jobs" "LShareTickets$Jobs;" ∈ a_GT := a_inT (a_t_2 (List.mem_of_getElem? (i := 10) (by decide +kernel))) rfl
theorem k_251 : Cond.fieldLink "ShareTickets$Place" (42 : Nat) "ShareTickets$Place" "scale" "LShareTickets$Scale;" ∈ a_GT := a_inT (a_t_2 (List.mem_of_getElem? (i := 11) (by decide +kernel))) rfl
theorem k_252 : Cond.fieldLink "ShareTickets" (136 : Nat) "ShareTickets$Place" "scale" "LShareTickets$Scale;" ∈ a_GT := a_inT (a_t_2 (List.mem_of_getElem? (i := 12) (by decide +kernel))) rfl
theorem k_253 : Cond.fieldLink "ShareTickets$Place" (46 : Nat) "ShareTickets$Place" "settings" "[I" ∈ a_GT := a_inT (a_t_2 (List.mem_of_getElem? (i := 13) (by decide +kernel))) rfl
theorem k_254 : Cond.fieldLink "ShareTickets" (113 : Nat) "ShareTickets$Place" "settings" "[I" ∈ a_GT := a_inT (a_t_2 (List.mem_of_getElem? (i := 14) (by decide +kernel))) rfl
theorem k_255 : Cond.fieldLink "ShareTickets$Text" (145 : Nat) "ShareTickets$Place" "settings" "[I" ∈ a_GT := a_inT (a_t_2 (List.mem_of_getElem? (i := 15) (by decide +kernel))) rfl
theorem k_256 : Cond.fieldLink "ShareTickets$Place" (66 : Nat) "ShareTickets$Place" "time" "I" ∈ a_GT := a_inT (a_t_2 (List.mem_of_getElem? (i := 16) (by decide +kernel))) rfl
theorem k_257 : Cond.fieldLink "ShareTickets$Scale" (103 : Nat) "ShareTickets$Place" "time" "I" ∈ a_GT := a_inT (a_t_2 (List.mem_of_getElem? (i := 17) (by decide +kernel))) rfl
theorem k_258 : Cond.fieldLink "ShareTickets" (110 : Nat) "ShareTickets$Place" "time" "I" ∈ a_GT := a_inT (a_t_2 (List.mem_of_getElem? (i := 18) (by decide +kernel))) rfl
theorem k_259 : Cond.fieldLink "ShareTickets$Place" (70 : Nat) "ShareTickets$Place" "interruptions" "I" ∈ a_GT := a_inT (a_t_2 (List.mem_of_getElem? (i := 19) (by decide +kernel))) rfl
theorem k_260 : Cond.fieldLink "ShareTickets" (125 : Nat) "ShareTickets$Place" "interruptions" "I" ∈ a_GT := a_inT (a_t_2 (List.mem_of_getElem? (i := 20) (by decide +kernel))) rfl
theorem k_261 : Cond.fieldLink "ShareTickets$Place" (73 : Nat) "ShareTickets$Place" "lostWork" "I" ∈ a_GT := a_inT (a_t_2 (List.mem_of_getElem? (i := 21) (by decide +kernel))) rfl
theorem k_262 : Cond.fieldLink "ShareTickets" (128 : Nat) "ShareTickets$Place" "lostWork" "I" ∈ a_GT := a_inT (a_t_2 (List.mem_of_getElem? (i := 22) (by decide +kernel))) rfl
theorem k_263 : Cond.laysFinal "ShareTickets$Place" "ShareTickets$Place" "tree" "LShareTickets$Tree;" ∈ a_GT := a_inT (a_t_2 (List.mem_of_getElem? (i := 23) (by decide +kernel))) rfl
theorem k_265 : Cond.laysFinal "ShareTickets$Place" "ShareTickets$Place" "loans" "LShareTickets$Loans;" ∈ a_GT := a_inT (a_t_2 (List.mem_of_getElem? (i := 25) (by decide +kernel))) rfl
theorem k_267 : Cond.laysFinal "ShareTickets$Place" "ShareTickets$Place" "machines" "LShareTickets$Machines;" ∈ a_GT := a_inT (a_t_2 (List.mem_of_getElem? (i := 27) (by decide +kernel))) rfl
theorem k_269 : Cond.laysFinal "ShareTickets$Place" "ShareTickets$Place" "jobs" "LShareTickets$Jobs;" ∈ a_GT := a_inT (a_t_2 (List.mem_of_getElem? (i := 29) (by decide +kernel))) rfl
theorem k_271 : Cond.laysFinal "ShareTickets$Place" "ShareTickets$Place" "scale" "LShareTickets$Scale;" ∈ a_GT := a_inT (a_t_2 (List.mem_of_getElem? (i := 31) (by decide +kernel))) rfl
theorem k_273 : Cond.laysFinal "ShareTickets$Place" "ShareTickets$Place" "settings" "[I" ∈ a_GT := a_inT (a_t_2 (List.mem_of_getElem? (i := 33) (by decide +kernel))) rfl
theorem k_275 : Cond.lays "ShareTickets$Place" "ShareTickets$Place" "time" "I" ∈ a_GT := a_inT (a_t_2 (List.mem_of_getElem? (i := 35) (by decide +kernel))) rfl
theorem k_277 : Cond.lays "ShareTickets$Place" "ShareTickets$Place" "interruptions" "I" ∈ a_GT := a_inT (a_t_2 (List.mem_of_getElem? (i := 37) (by decide +kernel))) rfl
theorem k_279 : Cond.lays "ShareTickets$Place" "ShareTickets$Place" "lostWork" "I" ∈ a_GT := a_inT (a_t_2 (List.mem_of_getElem? (i := 39) (by decide +kernel))) rfl
theorem k_281 : Cond.superclass "ShareTickets$Place" "java/lang/Object" ∈ a_GT := a_inT (a_t_2 (List.mem_of_getElem? (i := 41) (by decide +kernel))) rfl
theorem k_282 : Cond.classLink "ShareTickets" (19 : Nat) "ShareTickets$History" ∈ a_GT := a_inT (a_t_2 (List.mem_of_getElem? (i := 42) (by decide +kernel))) rfl
theorem k_283 : Cond.instantiable "ShareTickets$History" (3 : Nat) ∈ a_GT := a_inT (a_t_2 (List.mem_of_getElem? (i := 43) (by decide +kernel))) rfl
theorem k_284 : Cond.methodLink "ShareTickets" (21 : Nat) ({ cls := "ShareTickets$History", name := "<init>", desc := "()V" } : MethodName) ∈ a_GT := a_inT (a_t_2 (List.mem_of_getElem? (i := 44) (by decide +kernel))) rfl
theorem k_285 : Cond.instanceMethod ({ cls := "ShareTickets$History", name := "<init>", desc := "()V" } : MethodName) ∈ a_GT := a_inT (a_t_2 (List.mem_of_getElem? (i := 45) (by decide +kernel))) rfl
theorem k_286 : Cond.code ({ cls := "ShareTickets$History", name := "<init>", desc := "()V" } : MethodName) prog_2_method_1_code (2 : Nat) (Option.none : Option ClassFile.FieldType) ∈ a_GT := a_inT (a_t_2 (List.mem_of_getElem? (i := 46) (by decide +kernel))) rfl
theorem k_287 : Cond.methodLink "ShareTickets$History" (3 : Nat) ({ cls := "java/lang/Object", name := "<init>", desc := "()V" } : MethodName) ∈ a_GT := a_inT (a_t_2 (List.mem_of_getElem? (i := 47) (by decide +kernel))) rfl
theorem k_288 : Cond.classLink "ShareTickets$History" (9 : Nat) "ShareTickets$Place" ∈ a_GT := a_inT (a_t_2 (List.mem_of_getElem? (i := 48) (by decide +kernel))) rfl
theorem g_289 : Cond.arrayOver (ClassFile.FieldType.object "ShareTickets$Place") ∈ a_GN := a_inN (a_t_2 (List.mem_of_getElem? (i := 49) (by decide +kernel))) rfl
theorem k_290 : Cond.methodLink "ShareTickets$History" (17 : Nat) ({ cls := "ShareTickets$Place", name := "<init>", desc := "()V" } : MethodName) ∈ a_GT := a_inT (a_t_2 (List.mem_of_getElem? (i := 50) (by decide +kernel))) rfl
theorem k_291 : Cond.fieldLink "ShareTickets$History" (26 : Nat) "ShareTickets$History" "size" "I" ∈ a_GT := a_inT (a_t_2 (List.mem_of_getElem? (i := 51) (by decide +kernel))) rfl
theorem k_292 : Cond.fieldLink "ShareTickets" (355 : Nat) "ShareTickets$History" "size" "I" ∈ a_GT := a_inT (a_t_2 (List.mem_of_getElem? (i := 52) (by decide +kernel))) rfl
theorem k_293 : Cond.fieldLink "ShareTickets$History" (18 : Nat) "ShareTickets$History" "newest" "I" ∈ a_GT := a_inT (a_t_2 (List.mem_of_getElem? (i := 53) (by decide +kernel))) rfl
theorem k_294 : Cond.fieldLink "ShareTickets$History" (11 : Nat) "ShareTickets$History" "past" "[LShareTickets$Place;" ∈ a_GT := a_inT (a_t_2 (List.mem_of_getElem? (i := 54) (by decide +kernel))) rfl
theorem k_295 : Cond.lays "ShareTickets$History" "ShareTickets$History" "size" "I" ∈ a_GT := a_inT (a_t_2 (List.mem_of_getElem? (i := 55) (by decide +kernel))) rfl
theorem k_297 : Cond.lays "ShareTickets$History" "ShareTickets$History" "newest" "I" ∈ a_GT := a_inT (a_t_2 (List.mem_of_getElem? (i := 57) (by decide +kernel))) rfl
theorem k_299 : Cond.laysFinal "ShareTickets$History" "ShareTickets$History" "past" "[LShareTickets$Place;" ∈ a_GT := a_inT (a_t_2 (List.mem_of_getElem? (i := 59) (by decide +kernel))) rfl
theorem k_301 : Cond.superclass "ShareTickets$History" "java/lang/Object" ∈ a_GT := a_inT (a_t_2 (List.mem_of_getElem? (i := 61) (by decide +kernel))) rfl
theorem k_302 : Cond.classLink "ShareTickets" (26 : Nat) "ShareTickets$Text" ∈ a_GT := a_inT (a_t_2 (List.mem_of_getElem? (i := 62) (by decide +kernel))) rfl
theorem k_303 : Cond.instantiable "ShareTickets$Text" (7 : Nat) ∈ a_GT := a_inT (a_t_2 (List.mem_of_getElem? (i := 63) (by decide +kernel))) rfl
theorem g_304 : Cond.methodLinkNest "ShareTickets" (28 : Nat) ({ cls := "ShareTickets$Text", name := "<init>", desc := "()V" } : MethodName) "ShareTickets" ∈ a_GN := a_inN (a_t_2 (List.mem_of_getElem? (i := 64) (by decide +kernel))) rfl
theorem k_305 : Cond.instanceMethod ({ cls := "ShareTickets$Text", name := "<init>", desc := "()V" } : MethodName) ∈ a_GT := a_inT (a_t_2 (List.mem_of_getElem? (i := 65) (by decide +kernel))) rfl
theorem k_306 : Cond.code ({ cls := "ShareTickets$Text", name := "<init>", desc := "()V" } : MethodName) prog_9_method_1_code (1 : Nat) (Option.none : Option ClassFile.FieldType) ∈ a_GT := a_inT (a_t_2 (List.mem_of_getElem? (i := 66) (by decide +kernel))) rfl
theorem k_307 : Cond.methodLink "ShareTickets$Text" (3 : Nat) ({ cls := "java/lang/Object", name := "<init>", desc := "()V" } : MethodName) ∈ a_GT := a_inT (a_t_2 (List.mem_of_getElem? (i := 67) (by decide +kernel))) rfl
theorem k_308 : Cond.fieldLink "ShareTickets" (40 : Nat) "ShareTickets$Text" "filled" "I" ∈ a_GT := a_inT (a_t_2 (List.mem_of_getElem? (i := 68) (by decide +kernel))) rfl
theorem k_309 : Cond.fieldLink "ShareTickets$Text" (19 : Nat) "ShareTickets$Text" "filled" "I" ∈ a_GT := a_inT (a_t_2 (List.mem_of_getElem? (i := 69) (by decide +kernel))) rfl
theorem k_310 : Cond.fieldLink "ShareTickets$Text" (34 : Nat) "ShareTickets$Text" "error" "I" ∈ a_GT := a_inT (a_t_2 (List.mem_of_getElem? (i := 70) (by decide +kernel))) rfl
theorem k_311 : Cond.fieldLink "ShareTickets" (64 : Nat) "ShareTickets$Text" "error" "I" ∈ a_GT := a_inT (a_t_2 (List.mem_of_getElem? (i := 71) (by decide +kernel))) rfl
theorem k_312 : Cond.fieldLink "ShareTickets$Text" (9 : Nat) "ShareTickets$Text" "errorAt" "I" ∈ a_GT := a_inT (a_t_2 (List.mem_of_getElem? (i := 72) (by decide +kernel))) rfl
theorem k_313 : Cond.fieldLink "ShareTickets" (86 : Nat) "ShareTickets$Text" "errorAt" "I" ∈ a_GT := a_inT (a_t_2 (List.mem_of_getElem? (i := 73) (by decide +kernel))) rfl
theorem k_314 : Cond.fieldLink "ShareTickets$Text" (15 : Nat) "ShareTickets$Text" "bytes" "[B" ∈ a_GT := a_inT (a_t_2 (List.mem_of_getElem? (i := 74) (by decide +kernel))) rfl
theorem k_315 : Cond.fieldLink "ShareTickets$Text" (28 : Nat) "ShareTickets$Text" "length" "I" ∈ a_GT := a_inT (a_t_2 (List.mem_of_getElem? (i := 75) (by decide +kernel))) rfl
theorem k_316 : Cond.fieldLink "ShareTickets$Text" (31 : Nat) "ShareTickets$Text" "at" "I" ∈ a_GT := a_inT (a_t_2 (List.mem_of_getElem? (i := 76) (by decide +kernel))) rfl
theorem k_317 : Cond.fieldLink "ShareTickets$Text" (117 : Nat) "ShareTickets$Text" "numberAt" "I" ∈ a_GT := a_inT (a_t_2 (List.mem_of_getElem? (i := 77) (by decide +kernel))) rfl
theorem k_318 : Cond.lays "ShareTickets$Text" "ShareTickets$Text" "filled" "I" ∈ a_GT := a_inT (a_t_2 (List.mem_of_getElem? (i := 78) (by decide +kernel))) rfl
theorem k_320 : Cond.lays "ShareTickets$Text" "ShareTickets$Text" "error" "I" ∈ a_GT := a_inT (a_t_2 (List.mem_of_getElem? (i := 80) (by decide +kernel))) rfl
theorem k_322 : Cond.lays "ShareTickets$Text" "ShareTickets$Text" "errorAt" "I" ∈ a_GT := a_inT (a_t_2 (List.mem_of_getElem? (i := 82) (by decide +kernel))) rfl
theorem k_324 : Cond.laysFinal "ShareTickets$Text" "ShareTickets$Text" "bytes" "[B" ∈ a_GT := a_inT (a_t_2 (List.mem_of_getElem? (i := 84) (by decide +kernel))) rfl
theorem k_326 : Cond.lays "ShareTickets$Text" "ShareTickets$Text" "length" "I" ∈ a_GT := a_inT (a_t_2 (List.mem_of_getElem? (i := 86) (by decide +kernel))) rfl
theorem k_328 : Cond.lays "ShareTickets$Text" "ShareTickets$Text" "at" "I" ∈ a_GT := a_inT (a_t_2 (List.mem_of_getElem? (i := 88) (by decide +kernel))) rfl
theorem k_330 : Cond.lays "ShareTickets$Text" "ShareTickets$Text" "numberAt" "I" ∈ a_GT := a_inT (a_t_2 (List.mem_of_getElem? (i := 90) (by decide +kernel))) rfl
theorem k_332 : Cond.superclass "ShareTickets$Text" "java/lang/Object" ∈ a_GT := a_inT (a_t_2 (List.mem_of_getElem? (i := 92) (by decide +kernel))) rfl
theorem k_333 : Cond.arrayClass ClassFile.FieldType.byte ∈ a_GT := a_inT (a_t_2 (List.mem_of_getElem? (i := 93) (by decide +kernel))) rfl
theorem k_334 : Cond.classLink "ShareTickets" (33 : Nat) "ShareTickets$Note" ∈ a_GT := a_inT (a_t_2 (List.mem_of_getElem? (i := 94) (by decide +kernel))) rfl
theorem k_335 : Cond.instantiable "ShareTickets$Note" (2 : Nat) ∈ a_GT := a_inT (a_t_2 (List.mem_of_getElem? (i := 95) (by decide +kernel))) rfl
theorem g_336 : Cond.methodLinkNest "ShareTickets" (35 : Nat) ({ cls := "ShareTickets$Note", name := "<init>", desc := "()V" } : MethodName) "ShareTickets" ∈ a_GN := a_inN (a_t_2 (List.mem_of_getElem? (i := 96) (by decide +kernel))) rfl
theorem k_337 : Cond.instanceMethod ({ cls := "ShareTickets$Note", name := "<init>", desc := "()V" } : MethodName) ∈ a_GT := a_inT (a_t_2 (List.mem_of_getElem? (i := 97) (by decide +kernel))) rfl
theorem k_338 : Cond.code ({ cls := "ShareTickets$Note", name := "<init>", desc := "()V" } : MethodName) prog_6_method_1_code (1 : Nat) (Option.none : Option ClassFile.FieldType) ∈ a_GT := a_inT (a_t_2 (List.mem_of_getElem? (i := 98) (by decide +kernel))) rfl
theorem k_339 : Cond.methodLink "ShareTickets$Note" (1 : Nat) ({ cls := "java/lang/Object", name := "<init>", desc := "()V" } : MethodName) ∈ a_GT := a_inT (a_t_2 (List.mem_of_getElem? (i := 99) (by decide +kernel))) rfl
theorem k_340 : Cond.fieldLink "ShareTickets$Note" (13 : Nat) "ShareTickets$Note" "length" "I" ∈ a_GT := a_inT (a_t_2 (List.mem_of_getElem? (i := 100) (by decide +kernel))) rfl
theorem k_341 : Cond.fieldLink "ShareTickets" (347 : Nat) "ShareTickets$Note" "length" "I" ∈ a_GT := a_inT (a_t_2 (List.mem_of_getElem? (i := 101) (by decide +kernel))) rfl
theorem k_342 : Cond.fieldLink "ShareTickets$Note" (9 : Nat) "ShareTickets$Note" "bytes" "[B" ∈ a_GT := a_inT (a_t_2 (List.mem_of_getElem? (i := 102) (by decide +kernel))) rfl
theorem k_343 : Cond.fieldLink "ShareTickets" (351 : Nat) "ShareTickets$Note" "bytes" "[B" ∈ a_GT := a_inT (a_t_2 (List.mem_of_getElem? (i := 103) (by decide +kernel))) rfl
theorem k_344 : Cond.lays "ShareTickets$Note" "ShareTickets$Note" "length" "I" ∈ a_GT := a_inT (a_t_2 (List.mem_of_getElem? (i := 104) (by decide +kernel))) rfl
theorem k_346 : Cond.laysFinal "ShareTickets$Note" "ShareTickets$Note" "bytes" "[B" ∈ a_GT := a_inT (a_t_2 (List.mem_of_getElem? (i := 106) (by decide +kernel))) rfl
theorem k_348 : Cond.superclass "ShareTickets$Note" "java/lang/Object" ∈ a_GT := a_inT (a_t_2 (List.mem_of_getElem? (i := 108) (by decide +kernel))) rfl
theorem k_349 : Cond.fieldLink "ShareTickets" (10 : Nat) "ShareTickets" "present" "LShareTickets$Place;" ∈ a_GT := a_inT (a_t_2 (List.mem_of_getElem? (i := 109) (by decide +kernel))) rfl
theorem k_350 : Cond.fieldLink "ShareTickets" (16 : Nat) "ShareTickets" "thought" "LShareTickets$Place;" ∈ a_GT := a_inT (a_t_2 (List.mem_of_getElem? (i := 110) (by decide +kernel))) rfl
theorem k_351 : Cond.fieldLink "ShareTickets" (22 : Nat) "ShareTickets" "history" "LShareTickets$History;" ∈ a_GT := a_inT (a_t_2 (List.mem_of_getElem? (i := 111) (by decide +kernel))) rfl
theorem k_352 : Cond.fieldLink "ShareTickets" (29 : Nat) "ShareTickets" "text" "LShareTickets$Text;" ∈ a_GT := a_inT (a_t_2 (List.mem_of_getElem? (i := 112) (by decide +kernel))) rfl
theorem k_353 : Cond.fieldLink "ShareTickets" (36 : Nat) "ShareTickets" "written" "LShareTickets$Note;" ∈ a_GT := a_inT (a_t_2 (List.mem_of_getElem? (i := 113) (by decide +kernel))) rfl
theorem k_354 : Cond.laysFinal "ShareTickets" "ShareTickets" "present" "LShareTickets$Place;" ∈ a_GT := a_inT (a_t_2 (List.mem_of_getElem? (i := 114) (by decide +kernel))) rfl
theorem k_356 : Cond.laysFinal "ShareTickets" "ShareTickets" "thought" "LShareTickets$Place;" ∈ a_GT := a_inT (a_t_2 (List.mem_of_getElem? (i := 116) (by decide +kernel))) rfl
theorem k_358 : Cond.laysFinal "ShareTickets" "ShareTickets" "history" "LShareTickets$History;" ∈ a_GT := a_inT (a_t_2 (List.mem_of_getElem? (i := 118) (by decide +kernel))) rfl
theorem k_360 : Cond.laysFinal "ShareTickets" "ShareTickets" "text" "LShareTickets$Text;" ∈ a_GT := a_inT (a_t_2 (List.mem_of_getElem? (i := 120) (by decide +kernel))) rfl
theorem k_362 : Cond.laysFinal "ShareTickets" "ShareTickets" "written" "LShareTickets$Note;" ∈ a_GT := a_inT (a_t_2 (List.mem_of_getElem? (i := 122) (by decide +kernel))) rfl
theorem k_364 : Cond.superclass "ShareTickets" "java/lang/Object" ∈ a_GT := a_inT (a_t_2 (List.mem_of_getElem? (i := 124) (by decide +kernel))) rfl
theorem k_365 : Cond.methodLink "ShareTicketsLaw" (114 : Nat) ({ cls := "ShareTickets", name := "errorPosition", desc := "()I" } : MethodName) ∈ a_GT := a_inT (a_t_2 (List.mem_of_getElem? (i := 125) (by decide +kernel))) rfl
theorem k_366 : Cond.instanceMethod ({ cls := "ShareTickets", name := "errorPosition", desc := "()I" } : MethodName) ∈ a_GT := a_inT (a_t_2 (List.mem_of_getElem? (i := 126) (by decide +kernel))) rfl
theorem k_367 : Cond.selects "ShareTickets" ({ cls := "ShareTickets", name := "errorPosition", desc := "()I" } : MethodName) ({ cls := "ShareTickets", name := "errorPosition", desc := "()I" } : MethodName) ∈ a_GT := a_inT (a_t_2 (List.mem_of_getElem? (i := 127) (by decide +kernel))) rfl
theorem k_368 : Cond.code ({ cls := "ShareTickets", name := "errorPosition", desc := "()I" } : MethodName) prog_1_method_4_code (1 : Nat) (Option.some ClassFile.FieldType.int) ∈ a_GT := a_inT (a_t_2 (List.mem_of_getElem? (i := 128) (by decide +kernel))) rfl
theorem k_369 : Cond.methodLink "ShareTicketsLaw" (179 : Nat) ({ cls := "ShareTickets", name := "drift", desc := "()I" } : MethodName) ∈ a_GT := a_inT (a_t_2 (List.mem_of_getElem? (i := 129) (by decide +kernel))) rfl
theorem k_370 : Cond.instanceMethod ({ cls := "ShareTickets", name := "drift", desc := "()I" } : MethodName) ∈ a_GT := a_inT (a_t_2 (List.mem_of_getElem? (i := 130) (by decide +kernel))) rfl
theorem k_371 : Cond.selects "ShareTickets" ({ cls := "ShareTickets", name := "drift", desc := "()I" } : MethodName) ({ cls := "ShareTickets", name := "drift", desc := "()I" } : MethodName) ∈ a_GT := a_inT (a_t_2 (List.mem_of_getElem? (i := 131) (by decide +kernel))) rfl
theorem k_372 : Cond.code ({ cls := "ShareTickets", name := "drift", desc := "()I" } : MethodName) prog_1_method_24_code (5 : Nat) (Option.some ClassFile.FieldType.int) ∈ a_GT := a_inT (a_t_2 (List.mem_of_getElem? (i := 132) (by decide +kernel))) rfl
theorem k_373 : Cond.methodLink "ShareTickets" (163 : Nat) ({ cls := "ShareTickets$Tree", name := "sumBelow", desc := "(I[I)I" } : MethodName) ∈ a_GT := a_inT (a_t_2 (List.mem_of_getElem? (i := 133) (by decide +kernel))) rfl
theorem k_374 : Cond.instanceMethod ({ cls := "ShareTickets$Tree", name := "sumBelow", desc := "(I[I)I" } : MethodName) ∈ a_GT := a_inT (a_t_2 (List.mem_of_getElem? (i := 134) (by decide +kernel))) rfl
theorem k_375 : Cond.selects "ShareTickets$Tree" ({ cls := "ShareTickets$Tree", name := "sumBelow", desc := "(I[I)I" } : MethodName) ({ cls := "ShareTickets$Tree", name := "sumBelow", desc := "(I[I)I" } : MethodName) ∈ a_GT := a_inT (a_t_2 (List.mem_of_getElem? (i := 135) (by decide +kernel))) rfl
theorem k_376 : Cond.code ({ cls := "ShareTickets$Tree", name := "sumBelow", desc := "(I[I)I" } : MethodName) prog_10_method_12_code (5 : Nat) (Option.some ClassFile.FieldType.int) ∈ a_GT := a_inT (a_t_2 (List.mem_of_getElem? (i := 136) (by decide +kernel))) rfl
theorem k_377 : Cond.methodLink "ShareTickets$Tree" (56 : Nat) ({ cls := "ShareTickets$Tree", name := "isLeaf", desc := "(I)Z" } : MethodName) ∈ a_GT := a_inT (a_t_2 (List.mem_of_getElem? (i := 137) (by decide +kernel))) rfl
theorem k_378 : Cond.instanceMethod ({ cls := "ShareTickets$Tree", name := "isLeaf", desc := "(I)Z" } : MethodName) ∈ a_GT := a_inT (a_t_2 (List.mem_of_getElem? (i := 138) (by decide +kernel))) rfl
theorem k_379 : Cond.selects "ShareTickets$Tree" ({ cls := "ShareTickets$Tree", name := "isLeaf", desc := "(I)Z" } : MethodName) ({ cls := "ShareTickets$Tree", name := "isLeaf", desc := "(I)Z" } : MethodName) ∈ a_GT := a_inT (a_t_2 (List.mem_of_getElem? (i := 139) (by decide +kernel))) rfl
theorem k_380 : Cond.code ({ cls := "ShareTickets$Tree", name := "isLeaf", desc := "(I)Z" } : MethodName) prog_10_method_6_code (2 : Nat) (Option.some ClassFile.FieldType.boolean) ∈ a_GT := a_inT (a_t_2 (List.mem_of_getElem? (i := 140) (by decide +kernel))) rfl
theorem k_381 : Cond.methodLink "ShareTickets$Tree" (38 : Nat) ({ cls := "ShareTickets$Tree", name := "childrenOf", desc := "(I)I" } : MethodName) ∈ a_GT := a_inT (a_t_2 (List.mem_of_getElem? (i := 141) (by decide +kernel))) rfl
theorem k_382 : Cond.instanceMethod ({ cls := "ShareTickets$Tree", name := "childrenOf", desc := "(I)I" } : MethodName) ∈ a_GT := a_inT (a_t_2 (List.mem_of_getElem? (i := 142) (by decide +kernel))) rfl
theorem k_383 : Cond.selects "ShareTickets$Tree" ({ cls := "ShareTickets$Tree", name := "childrenOf", desc := "(I)I" } : MethodName) ({ cls := "ShareTickets$Tree", name := "childrenOf", desc := "(I)I" } : MethodName) ∈ a_GT := a_inT (a_t_2 (List.mem_of_getElem? (i := 143) (by decide +kernel))) rfl
theorem k_384 : Cond.code ({ cls := "ShareTickets$Tree", name := "childrenOf", desc := "(I)I" } : MethodName) prog_10_method_7_code (4 : Nat) (Option.some ClassFile.FieldType.int) ∈ a_GT := a_inT (a_t_2 (List.mem_of_getElem? (i := 144) (by decide +kernel))) rfl
theorem k_385 : Cond.methodLink "ShareTickets$Tree" (59 : Nat) ({ cls := "ShareTickets$Tree", name := "isUnder", desc := "(II)Z" } : MethodName) ∈ a_GT := a_inT (a_t_2 (List.mem_of_getElem? (i := 145) (by decide +kernel))) rfl
theorem k_387 : Cond.instanceMethod ({ cls := "ShareTickets$Tree", name := "isUnder", desc := "(II)Z" } : MethodName) ∈ a_GT := a_inT (a_t_2 (List.mem_of_getElem? (i := 147) (by decide +kernel))) rfl
theorem k_388 : Cond.code ({ cls := "ShareTickets$Tree", name := "isUnder", desc := "(II)Z" } : MethodName) prog_10_method_13_code (5 : Nat) (Option.some ClassFile.FieldType.boolean) ∈ a_GT := a_inT (a_t_2 (List.mem_of_getElem? (i := 148) (by decide +kernel))) rfl
theorem k_389 : Cond.methodLink "ShareTickets$Tree" (46 : Nat) ({ cls := "ShareTickets$Tree", name := "has", desc := "(I)Z" } : MethodName) ∈ a_GT := a_inT (a_t_2 (List.mem_of_getElem? (i := 149) (by decide +kernel))) rfl
theorem k_390 : Cond.instanceMethod ({ cls := "ShareTickets$Tree", name := "has", desc := "(I)Z" } : MethodName) ∈ a_GT := a_inT (a_t_2 (List.mem_of_getElem? (i := 150) (by decide +kernel))) rfl
theorem k_391 : Cond.selects "ShareTickets$Tree" ({ cls := "ShareTickets$Tree", name := "has", desc := "(I)Z" } : MethodName) ({ cls := "ShareTickets$Tree", name := "has", desc := "(I)Z" } : MethodName) ∈ a_GT := a_inT (a_t_2 (List.mem_of_getElem? (i := 151) (by decide +kernel))) rfl
theorem k_392 : Cond.code ({ cls := "ShareTickets$Tree", name := "has", desc := "(I)Z" } : MethodName) prog_10_method_4_code (2 : Nat) (Option.some ClassFile.FieldType.boolean) ∈ a_GT := a_inT (a_t_2 (List.mem_of_getElem? (i := 152) (by decide +kernel))) rfl
theorem k_393 : Cond.methodLink "ShareTickets" (326 : Nat) ({ cls := "ShareTickets$Tree", name := "isLeaf", desc := "(I)Z" } : MethodName) ∈ a_GT := a_inT (a_t_2 (List.mem_of_getElem? (i := 153) (by decide +kernel))) rfl
theorem k_394 : Cond.methodLink "ShareTickets" (329 : Nat) ({ cls := "ShareTickets$Tree", name := "need", desc := "(II)I" } : MethodName) ∈ a_GT := a_inT (a_t_2 (List.mem_of_getElem? (i := 154) (by decide +kernel))) rfl
theorem k_395 : Cond.instanceMethod ({ cls := "ShareTickets$Tree", name := "need", desc := "(II)I" } : MethodName) ∈ a_GT := a_inT (a_t_2 (List.mem_of_getElem? (i := 155) (by decide +kernel))) rfl
theorem k_396 : Cond.selects "ShareTickets$Tree" ({ cls := "ShareTickets$Tree", name := "need", desc := "(II)I" } : MethodName) ({ cls := "ShareTickets$Tree", name := "need", desc := "(II)I" } : MethodName) ∈ a_GT := a_inT (a_t_2 (List.mem_of_getElem? (i := 156) (by decide +kernel))) rfl
theorem k_397 : Cond.code ({ cls := "ShareTickets$Tree", name := "need", desc := "(II)I" } : MethodName) prog_10_method_16_code (5 : Nat) (Option.some ClassFile.FieldType.int) ∈ a_GT := a_inT (a_t_2 (List.mem_of_getElem? (i := 157) (by decide +kernel))) rfl
theorem k_398 : Cond.constantLong "ShareTickets$Tree" (63 : Nat) (1000000 : Int64) ∈ a_GT := a_inT (a_t_2 (List.mem_of_getElem? (i := 158) (by decide +kernel))) rfl
theorem k_399 : Cond.methodLink "ShareTickets" (332 : Nat) ({ cls := "java/lang/Math", name := "abs", desc := "(I)I" } : MethodName) ∈ a_GT := a_inT (a_t_2 (List.mem_of_getElem? (i := 159) (by decide +kernel))) rfl
theorem k_400 : Cond.static ({ cls := "java/lang/Math", name := "abs", desc := "(I)I" } : MethodName) ∈ a_GT := a_inT (a_t_2 (List.mem_of_getElem? (i := 160) (by decide +kernel))) rfl
theorem k_401 : Cond.code ({ cls := "java/lang/Math", name := "abs", desc := "(I)I" } : MethodName) prog_20_method_59_code (1 : Nat) (Option.some ClassFile.FieldType.int) ∈ a_GT := a_inT (a_t_2 (List.mem_of_getElem? (i := 161) (by decide +kernel))) rfl
theorem k_402 : Cond.methodLink "ShareTicketsLaw" (187 : Nat) ({ cls := "ShareTickets", name := "neediest", desc := "()I" } : MethodName) ∈ a_GT := a_inT (a_t_2 (List.mem_of_getElem? (i := 162) (by decide +kernel))) rfl
theorem k_403 : Cond.instanceMethod ({ cls := "ShareTickets", name := "neediest", desc := "()I" } : MethodName) ∈ a_GT := a_inT (a_t_2 (List.mem_of_getElem? (i := 163) (by decide +kernel))) rfl
theorem k_404 : Cond.selects "ShareTickets" ({ cls := "ShareTickets", name := "neediest", desc := "()I" } : MethodName) ({ cls := "ShareTickets", name := "neediest", desc := "()I" } : MethodName) ∈ a_GT := a_inT (a_t_2 (List.mem_of_getElem? (i := 164) (by decide +kernel))) rfl
theorem k_405 : Cond.code ({ cls := "ShareTickets", name := "neediest", desc := "()I" } : MethodName) prog_1_method_26_code (6 : Nat) (Option.some ClassFile.FieldType.int) ∈ a_GT := a_inT (a_t_2 (List.mem_of_getElem? (i := 165) (by decide +kernel))) rfl
theorem k_406 : Cond.methodLink "ShareTicketsLaw" (191 : Nat) ({ cls := "ShareTickets", name := "writeMachines", desc := "()I" } : MethodName) ∈ a_GT := a_inT (a_t_2 (List.mem_of_getElem? (i := 166) (by decide +kernel))) rfl
theorem k_407 : Cond.instanceMethod ({ cls := "ShareTickets", name := "writeMachines", desc := "()I" } : MethodName) ∈ a_GT := a_inT (a_t_2 (List.mem_of_getElem? (i := 167) (by decide +kernel))) rfl
theorem k_408 : Cond.selects "ShareTickets" ({ cls := "ShareTickets", name := "writeMachines", desc := "()I" } : MethodName) ({ cls := "ShareTickets", name := "writeMachines", desc := "()I" } : MethodName) ∈ a_GT := a_inT (a_t_2 (List.mem_of_getElem? (i := 168) (by decide +kernel))) rfl
theorem k_409 : Cond.code ({ cls := "ShareTickets", name := "writeMachines", desc := "()I" } : MethodName) prog_1_method_27_code (2 : Nat) (Option.some ClassFile.FieldType.int) ∈ a_GT := a_inT (a_t_2 (List.mem_of_getElem? (i := 169) (by decide +kernel))) rfl
theorem k_410 : Cond.methodLink "ShareTickets" (339 : Nat) ({ cls := "ShareTickets$Note", name := "clear", desc := "()V" } : MethodName) ∈ a_GT := a_inT (a_t_2 (List.mem_of_getElem? (i := 170) (by decide +kernel))) rfl
theorem k_411 : Cond.instanceMethod ({ cls := "ShareTickets$Note", name := "clear", desc := "()V" } : MethodName) ∈ a_GT := a_inT (a_t_2 (List.mem_of_getElem? (i := 171) (by decide +kernel))) rfl
theorem k_412 : Cond.selects "ShareTickets$Note" ({ cls := "ShareTickets$Note", name := "clear", desc := "()V" } : MethodName) ({ cls := "ShareTickets$Note", name := "clear", desc := "()V" } : MethodName) ∈ a_GT := a_inT (a_t_2 (List.mem_of_getElem? (i := 172) (by decide +kernel))) rfl
theorem k_413 : Cond.code ({ cls := "ShareTickets$Note", name := "clear", desc := "()V" } : MethodName) prog_6_method_2_code (1 : Nat) (Option.none : Option ClassFile.FieldType) ∈ a_GT := a_inT (a_t_2 (List.mem_of_getElem? (i := 173) (by decide +kernel))) rfl
theorem k_414 : Cond.methodLink "ShareTickets" (342 : Nat) ({ cls := "ShareTickets$Note", name := "put", desc := "(I)V" } : MethodName) ∈ a_GT := a_inT (a_t_2 (List.mem_of_getElem? (i := 174) (by decide +kernel))) rfl
theorem k_415 : Cond.instanceMethod ({ cls := "ShareTickets$Note", name := "put", desc := "(I)V" } : MethodName) ∈ a_GT := a_inT (a_t_2 (List.mem_of_getElem? (i := 175) (by decide +kernel))) rfl
theorem k_416 : Cond.selects "ShareTickets$Note" ({ cls := "ShareTickets$Note", name := "put", desc := "(I)V" } : MethodName) ({ cls := "ShareTickets$Note", name := "put", desc := "(I)V" } : MethodName) ∈ a_GT := a_inT (a_t_2 (List.mem_of_getElem? (i := 176) (by decide +kernel))) rfl
theorem k_417 : Cond.code ({ cls := "ShareTickets$Note", name := "put", desc := "(I)V" } : MethodName) prog_6_method_3_code (2 : Nat) (Option.none : Option ClassFile.FieldType) ∈ a_GT := a_inT (a_t_2 (List.mem_of_getElem? (i := 177) (by decide +kernel))) rfl
theorem k_418 : Cond.methodLink "ShareTickets" (343 : Nat) ({ cls := "ShareTickets$Note", name := "putMachine", desc := "(LShareTickets$Place;I)V" } : MethodName) ∈ a_GT := a_inT (a_t_2 (List.mem_of_getElem? (i := 178) (by decide +kernel))) rfl
theorem k_419 : Cond.instanceMethod ({ cls := "ShareTickets$Note", name := "putMachine", desc := "(LShareTickets$Place;I)V" } : MethodName) ∈ a_GT := a_inT (a_t_2 (List.mem_of_getElem? (i := 179) (by decide +kernel))) rfl
theorem k_420 : Cond.selects "ShareTickets$Note" ({ cls := "ShareTickets$Note", name := "putMachine", desc := "(LShareTickets$Place;I)V" } : MethodName) ({ cls := "ShareTickets$Note", name := "putMachine", desc := "(LShareTickets$Place;I)V" } : MethodName) ∈ a_GT := a_inT (a_t_2 (List.mem_of_getElem? (i := 180) (by decide +kernel))) rfl
theorem k_421 : Cond.code ({ cls := "ShareTickets$Note", name := "putMachine", desc := "(LShareTickets$Place;I)V" } : MethodName) prog_6_method_4_code (5 : Nat) (Option.none : Option ClassFile.FieldType) ∈ a_GT := a_inT (a_t_2 (List.mem_of_getElem? (i := 181) (by decide +kernel))) rfl
theorem k_422 : Cond.methodLink "ShareTickets$Note" (23 : Nat) ({ cls := "ShareTickets$Machines", name := "isUp", desc := "(I)Z" } : MethodName) ∈ a_GT := a_inT (a_t_2 (List.mem_of_getElem? (i := 182) (by decide +kernel))) rfl
theorem k_423 : Cond.instanceMethod ({ cls := "ShareTickets$Machines", name := "isUp", desc := "(I)Z" } : MethodName) ∈ a_GT := a_inT (a_t_2 (List.mem_of_getElem? (i := 183) (by decide +kernel))) rfl
theorem k_424 : Cond.selects "ShareTickets$Machines" ({ cls := "ShareTickets$Machines", name := "isUp", desc := "(I)Z" } : MethodName) ({ cls := "ShareTickets$Machines", name := "isUp", desc := "(I)Z" } : MethodName) ∈ a_GT := a_inT (a_t_2 (List.mem_of_getElem? (i := 184) (by decide +kernel))) rfl
theorem k_425 : Cond.code ({ cls := "ShareTickets$Machines", name := "isUp", desc := "(I)Z" } : MethodName) prog_5_method_6_code (2 : Nat) (Option.some ClassFile.FieldType.boolean) ∈ a_GT := a_inT (a_t_2 (List.mem_of_getElem? (i := 185) (by decide +kernel))) rfl
theorem k_426 : Cond.methodLink "ShareTickets$Machines" (28 : Nat) ({ cls := "ShareTickets$Machines", name := "has", desc := "(I)Z" } : MethodName) ∈ a_GT := a_inT (a_t_2 (List.mem_of_getElem? (i := 186) (by decide +kernel))) rfl
theorem k_427 : Cond.instanceMethod ({ cls := "ShareTickets$Machines", name := "has", desc := "(I)Z" } : MethodName) ∈ a_GT := a_inT (a_t_2 (List.mem_of_getElem? (i := 187) (by decide +kernel))) rfl
theorem k_428 : Cond.selects "ShareTickets$Machines" ({ cls := "ShareTickets$Machines", name := "has", desc := "(I)Z" } : MethodName) ({ cls := "ShareTickets$Machines", name := "has", desc := "(I)Z" } : MethodName) ∈ a_GT := a_inT (a_t_2 (List.mem_of_getElem? (i := 188) (by decide +kernel))) rfl
theorem k_429 : Cond.code ({ cls := "ShareTickets$Machines", name := "has", desc := "(I)Z" } : MethodName) prog_5_method_4_code (2 : Nat) (Option.some ClassFile.FieldType.boolean) ∈ a_GT := a_inT (a_t_2 (List.mem_of_getElem? (i := 189) (by decide +kernel))) rfl
theorem k_430 : Cond.methodLink "ShareTickets$Note" (29 : Nat) ({ cls := "ShareTickets$Note", name := "put", desc := "(I)V" } : MethodName) ∈ a_GT := a_inT (a_t_2 (List.mem_of_getElem? (i := 190) (by decide +kernel))) rfl
theorem k_431 : Cond.methodLink "ShareTickets$Note" (42 : Nat) ({ cls := "ShareTickets$Jobs", name := "runsOn", desc := "(II)Z" } : MethodName) ∈ a_GT := a_inT (a_t_2 (List.mem_of_getElem? (i := 191) (by decide +kernel))) rfl
theorem k_432 : Cond.instanceMethod ({ cls := "ShareTickets$Jobs", name := "runsOn", desc := "(II)Z" } : MethodName) ∈ a_GT := a_inT (a_t_2 (List.mem_of_getElem? (i := 192) (by decide +kernel))) rfl
theorem k_433 : Cond.selects "ShareTickets$Jobs" ({ cls := "ShareTickets$Jobs", name := "runsOn", desc := "(II)Z" } : MethodName) ({ cls := "ShareTickets$Jobs", name := "runsOn", desc := "(II)Z" } : MethodName) ∈ a_GT := a_inT (a_t_2 (List.mem_of_getElem? (i := 193) (by decide +kernel))) rfl
theorem k_434 : Cond.code ({ cls := "ShareTickets$Jobs", name := "runsOn", desc := "(II)Z" } : MethodName) prog_3_method_7_code (3 : Nat) (Option.some ClassFile.FieldType.boolean) ∈ a_GT := a_inT (a_t_2 (List.mem_of_getElem? (i := 194) (by decide +kernel))) rfl
theorem k_435 : Cond.methodLink "ShareTickets$Jobs" (43 : Nat) ({ cls := "ShareTickets$Jobs", name := "has", desc := "(I)Z" } : MethodName) ∈ a_GT := a_inT (a_t_2 (List.mem_of_getElem? (i := 195) (by decide +kernel))) rfl
theorem k_436 : Cond.instanceMethod ({ cls := "ShareTickets$Jobs", name := "has", desc := "(I)Z" } : MethodName) ∈ a_GT := a_inT (a_t_2 (List.mem_of_getElem? (i := 196) (by decide +kernel))) rfl
theorem k_437 : Cond.selects "ShareTickets$Jobs" ({ cls := "ShareTickets$Jobs", name := "has", desc := "(I)Z" } : MethodName) ({ cls := "ShareTickets$Jobs", name := "has", desc := "(I)Z" } : MethodName) ∈ a_GT := a_inT (a_t_2 (List.mem_of_getElem? (i := 197) (by decide +kernel))) rfl
theorem k_438 : Cond.code ({ cls := "ShareTickets$Jobs", name := "has", desc := "(I)Z" } : MethodName) prog_3_method_4_code (2 : Nat) (Option.some ClassFile.FieldType.boolean) ∈ a_GT := a_inT (a_t_2 (List.mem_of_getElem? (i := 198) (by decide +kernel))) rfl
theorem k_439 : Cond.methodLink "ShareTickets$Note" (46 : Nat) ({ cls := "ShareTickets$Note", name := "putNumber", desc := "(I)V" } : MethodName) ∈ a_GT := a_inT (a_t_2 (List.mem_of_getElem? (i := 199) (by decide +kernel))) rfl
theorem k_441 : Cond.instanceMethod ({ cls := "ShareTickets$Note", name := "putNumber", desc := "(I)V" } : MethodName) ∈ a_GT := a_inT (a_t_2 (List.mem_of_getElem? (i := 201) (by decide +kernel))) rfl
theorem k_442 : Cond.code ({ cls := "ShareTickets$Note", name := "putNumber", desc := "(I)V" } : MethodName) prog_6_method_5_code (2 : Nat) (Option.none : Option ClassFile.FieldType) ∈ a_GT := a_inT (a_t_2 (List.mem_of_getElem? (i := 202) (by decide +kernel))) rfl
theorem k_443 : Cond.methodLink "ShareTicketsLaw" (101 : Nat) ({ cls := "ShareTicketsLaw", name := "append", desc := "(LShareTickets;IIIII[J)I" } : MethodName) ∈ a_GT := a_inT (a_t_2 (List.mem_of_getElem? (i := 203) (by decide +kernel))) rfl
theorem k_444 : Cond.static ({ cls := "ShareTicketsLaw", name := "append", desc := "(LShareTickets;IIIII[J)I" } : MethodName) ∈ a_GT := a_inT (a_t_2 (List.mem_of_getElem? (i := 204) (by decide +kernel))) rfl
theorem k_445 : Cond.codeWith ({ cls := "ShareTicketsLaw", name := "append", desc := "(LShareTickets;IIIII[J)I" } : MethodName) method_3_code (8 : Nat) (Option.some ClassFile.FieldType.int) [((0 : Nat), (16 : Nat), (19 : Nat), (13 : Nat))] ∈ a_GT := a_inT (a_t_2 (List.mem_of_getElem? (i := 205) (by decide +kernel))) rfl
theorem k_446 : Cond.classLink "ShareTicketsLaw" (13 : Nat) "java/lang/IllegalStateException" ∈ a_GT := a_inT (a_t_2 (List.mem_of_getElem? (i := 206) (by decide +kernel))) rfl
theorem k_447 : Cond.methodLink "ShareTicketsLaw" (7 : Nat) ({ cls := "ShareTickets", name := "append", desc := "(IIIII)I" } : MethodName) ∈ a_GT := a_inT (a_t_2 (List.mem_of_getElem? (i := 207) (by decide +kernel))) rfl
theorem k_448 : Cond.instanceMethod ({ cls := "ShareTickets", name := "append", desc := "(IIIII)I" } : MethodName) ∈ a_GT := a_inT (a_t_2 (List.mem_of_getElem? (i := 208) (by decide +kernel))) rfl
theorem k_449 : Cond.selects "ShareTickets" ({ cls := "ShareTickets", name := "append", desc := "(IIIII)I" } : MethodName) ({ cls := "ShareTickets", name := "append", desc := "(IIIII)I" } : MethodName) ∈ a_GT := a_inT (a_t_2 (List.mem_of_getElem? (i := 209) (by decide +kernel))) rfl
theorem k_450 : Cond.code ({ cls := "ShareTickets", name := "append", desc := "(IIIII)I" } : MethodName) prog_1_method_2_code (6 : Nat) (Option.some ClassFile.FieldType.int) ∈ a_GT := a_inT (a_t_2 (List.mem_of_getElem? (i := 210) (by decide +kernel))) rfl
theorem k_451 : Cond.classLink "ShareTickets" (44 : Nat) "java/lang/IllegalStateException" ∈ a_GT := a_inT (a_t_2 (List.mem_of_getElem? (i := 211) (by decide +kernel))) rfl
theorem k_452 : Cond.instantiable "java/lang/IllegalStateException" (6 : Nat) ∈ a_GT := a_inT (a_t_2 (List.mem_of_getElem? (i := 212) (by decide +kernel))) rfl
theorem g_453 : Cond.castable "java/lang/IllegalStateException" "java/lang/IllegalStateException" ∈ a_GN := a_inN (a_t_2 (List.mem_of_getElem? (i := 213) (by decide +kernel))) rfl
theorem g_454 : Cond.declares ({ cls := "java/lang/RuntimeException", name := "<init>", desc := "()V" } : MethodName) ∈ a_GN := a_inN (a_t_2 (List.mem_of_getElem? (i := 214) (by decide +kernel))) rfl
theorem g_455 : Cond.declares ({ cls := "java/lang/RuntimeException", name := "<init>", desc := "(Ljava/lang/String;)V" } : MethodName) ∈ a_GN := a_inN (a_t_2 (List.mem_of_getElem? (i := 215) (by decide +kernel))) rfl
theorem g_456 : Cond.declares ({ cls := "java/lang/Exception", name := "<init>", desc := "()V" } : MethodName) ∈ a_GN := a_inN (a_t_2 (List.mem_of_getElem? (i := 216) (by decide +kernel))) rfl
theorem g_457 : Cond.declares ({ cls := "java/lang/Exception", name := "<init>", desc := "(Ljava/lang/String;)V" } : MethodName) ∈ a_GN := a_inN (a_t_2 (List.mem_of_getElem? (i := 217) (by decide +kernel))) rfl
theorem g_458 : Cond.declares ({ cls := "java/lang/Throwable", name := "<init>", desc := "()V" } : MethodName) ∈ a_GN := a_inN (a_t_2 (List.mem_of_getElem? (i := 218) (by decide +kernel))) rfl
theorem g_459 : Cond.declares ({ cls := "java/lang/Throwable", name := "<init>", desc := "(Ljava/lang/String;)V" } : MethodName) ∈ a_GN := a_inN (a_t_2 (List.mem_of_getElem? (i := 219) (by decide +kernel))) rfl
theorem k_460 : Cond.selects "java/lang/IllegalStateException" ({ cls := "java/lang/Throwable", name := "fillInStackTrace", desc := "(I)Ljava/lang/Throwable;" } : MethodName) ({ cls := "java/lang/Throwable", name := "fillInStackTrace", desc := "(I)Ljava/lang/Throwable;" } : MethodName) ∈ a_GT := a_inT (a_t_2 (List.mem_of_getElem? (i := 220) (by decide +kernel))) rfl
theorem k_461 : Cond.selects "java/lang/IllegalStateException" ({ cls := "java/lang/Throwable", name := "fillInStackTrace", desc := "()Ljava/lang/Throwable;" } : MethodName) ({ cls := "java/lang/Throwable", name := "fillInStackTrace", desc := "()Ljava/lang/Throwable;" } : MethodName) ∈ a_GT := a_inT (a_t_2 (List.mem_of_getElem? (i := 221) (by decide +kernel))) rfl
theorem k_462 : Cond.lays "java/lang/IllegalStateException" "java/lang/Throwable" "cause" "Ljava/lang/Throwable;" ∈ a_GT := a_inT (a_t_2 (List.mem_of_getElem? (i := 222) (by decide +kernel))) rfl
theorem k_463 : Cond.lays "java/lang/Throwable" "java/lang/Throwable" "cause" "Ljava/lang/Throwable;" ∈ a_GT := a_inT (a_t_2 (List.mem_of_getElem? (i := 223) (by decide +kernel))) rfl
theorem k_464 : Cond.lays "java/lang/IllegalStateException" "java/lang/Throwable" "stackTrace" "[Ljava/lang/StackTraceElement;" ∈ a_GT := a_inT (a_t_2 (List.mem_of_getElem? (i := 224) (by decide +kernel))) rfl
theorem k_465 : Cond.lays "java/lang/Throwable" "java/lang/Throwable" "stackTrace" "[Ljava/lang/StackTraceElement;" ∈ a_GT := a_inT (a_t_2 (List.mem_of_getElem? (i := 225) (by decide +kernel))) rfl
theorem k_466 : Cond.lays "java/lang/IllegalStateException" "java/lang/Throwable" "suppressedExceptions" "Ljava/util/List;" ∈ a_GT := a_inT (a_t_2 (List.mem_of_getElem? (i := 226) (by decide +kernel))) rfl
theorem k_467 : Cond.lays "java/lang/Throwable" "java/lang/Throwable" "suppressedExceptions" "Ljava/util/List;" ∈ a_GT := a_inT (a_t_2 (List.mem_of_getElem? (i := 227) (by decide +kernel))) rfl
theorem k_468 : Cond.lays "java/lang/IllegalStateException" "java/lang/Throwable" "detailMessage" "Ljava/lang/String;" ∈ a_GT := a_inT (a_t_2 (List.mem_of_getElem? (i := 228) (by decide +kernel))) rfl
theorem k_469 : Cond.lays "java/lang/Throwable" "java/lang/Throwable" "detailMessage" "Ljava/lang/String;" ∈ a_GT := a_inT (a_t_2 (List.mem_of_getElem? (i := 229) (by decide +kernel))) rfl
theorem k_470 : Cond.lays "java/lang/IllegalStateException" "java/lang/Throwable" "backtrace" "Ljava/lang/Object;" ∈ a_GT := a_inT (a_t_2 (List.mem_of_getElem? (i := 230) (by decide +kernel))) rfl
theorem k_471 : Cond.lays "java/lang/Throwable" "java/lang/Throwable" "backtrace" "Ljava/lang/Object;" ∈ a_GT := a_inT (a_t_2 (List.mem_of_getElem? (i := 231) (by decide +kernel))) rfl
theorem k_472 : Cond.fieldLink "java/lang/Throwable" (198 : Nat) "java/lang/Throwable" "backtrace" "Ljava/lang/Object;" ∈ a_GT := a_inT (a_t_2 (List.mem_of_getElem? (i := 232) (by decide +kernel))) rfl
theorem k_473 : Cond.superclass "java/lang/Throwable" "java/lang/Object" ∈ a_GT := a_inT (a_t_2 (List.mem_of_getElem? (i := 233) (by decide +kernel))) rfl
theorem k_474 : Cond.instanceMethod ({ cls := "java/lang/Throwable", name := "<init>", desc := "()V" } : MethodName) ∈ a_GT := a_inT (a_t_2 (List.mem_of_getElem? (i := 234) (by decide +kernel))) rfl
theorem k_475 : Cond.code ({ cls := "java/lang/Throwable", name := "<init>", desc := "()V" } : MethodName) prog_26_method_1_code (1 : Nat) (Option.none : Option ClassFile.FieldType) ∈ a_GT := a_inT (a_t_2 (List.mem_of_getElem? (i := 235) (by decide +kernel))) rfl
theorem k_476 : Cond.methodLink "java/lang/Throwable" (1 : Nat) ({ cls := "java/lang/Object", name := "<init>", desc := "()V" } : MethodName) ∈ a_GT := a_inT (a_t_2 (List.mem_of_getElem? (i := 236) (by decide +kernel))) rfl
theorem k_477 : Cond.fieldLink "java/lang/Throwable" (13 : Nat) "java/lang/Throwable" "UNASSIGNED_STACK" "[Ljava/lang/StackTraceElement;" ∈ a_GT := a_inT (a_t_2 (List.mem_of_getElem? (i := 237) (by decide +kernel))) rfl
theorem k_479 : Cond.fieldLink "java/lang/Throwable" (20 : Nat) "java/lang/Throwable" "SUPPRESSED_SENTINEL" "Ljava/util/List;" ∈ a_GT := a_inT (a_t_2 (List.mem_of_getElem? (i := 239) (by decide +kernel))) rfl
theorem k_481 : Cond.methodLink "java/lang/Throwable" (27 : Nat) ({ cls := "java/lang/Throwable", name := "fillInStackTrace", desc := "()Ljava/lang/Throwable;" } : MethodName) ∈ a_GT := a_inT (a_t_3 (List.mem_of_getElem? (i := 1) (by decide +kernel))) rfl
theorem k_482 : Cond.instanceMethod ({ cls := "java/lang/Throwable", name := "fillInStackTrace", desc := "()Ljava/lang/Throwable;" } : MethodName) ∈ a_GT := a_inT (a_t_3 (List.mem_of_getElem? (i := 2) (by decide +kernel))) rfl
theorem k_483 : Cond.sameMethod "java/lang/Throwable" "java/lang/Throwable" "fillInStackTrace" "()Ljava/lang/Throwable;" ∈ a_GT := a_inT (a_t_3 (List.mem_of_getElem? (i := 3) (by decide +kernel))) rfl
theorem k_484 : Cond.selects "java/lang/IllegalArgumentException" ({ cls := "java/lang/Throwable", name := "fillInStackTrace", desc := "()Ljava/lang/Throwable;" } : MethodName) ({ cls := "java/lang/Throwable", name := "fillInStackTrace", desc := "()Ljava/lang/Throwable;" } : MethodName) ∈ a_GT := a_inT (a_t_3 (List.mem_of_getElem? (i := 4) (by decide +kernel))) rfl
theorem k_485 : Cond.selects "java/lang/IndexOutOfBoundsException" ({ cls := "java/lang/Throwable", name := "fillInStackTrace", desc := "()Ljava/lang/Throwable;" } : MethodName) ({ cls := "java/lang/Throwable", name := "fillInStackTrace", desc := "()Ljava/lang/Throwable;" } : MethodName) ∈ a_GT := a_inT (a_t_3 (List.mem_of_getElem? (i := 5) (by decide +kernel))) rfl
theorem k_486 : Cond.selects "java/util/NoSuchElementException" ({ cls := "java/lang/Throwable", name := "fillInStackTrace", desc := "()Ljava/lang/Throwable;" } : MethodName) ({ cls := "java/lang/Throwable", name := "fillInStackTrace", desc := "()Ljava/lang/Throwable;" } : MethodName) ∈ a_GT := a_inT (a_t_3 (List.mem_of_getElem? (i := 6) (by decide +kernel))) rfl
theorem k_487 : Cond.codeSync ({ cls := "java/lang/Throwable", name := "fillInStackTrace", desc := "()Ljava/lang/Throwable;" } : MethodName) prog_26_method_18_code (1 : Nat) (Option.some (ClassFile.FieldType.object "java/lang/Throwable")) ∈ a_GT := a_inT (a_t_3 (List.mem_of_getElem? (i := 7) (by decide +kernel))) rfl
theorem k_488 : Cond.methodLink "java/lang/Throwable" (202 : Nat) ({ cls := "java/lang/Throwable", name := "fillInStackTrace", desc := "(I)Ljava/lang/Throwable;" } : MethodName) ∈ a_GT := a_inT (a_t_3 (List.mem_of_getElem? (i := 8) (by decide +kernel))) rfl
theorem k_490 : Cond.instanceMethod ({ cls := "java/lang/Throwable", name := "fillInStackTrace", desc := "(I)Ljava/lang/Throwable;" } : MethodName) ∈ a_GT := a_inT (a_t_3 (List.mem_of_getElem? (i := 10) (by decide +kernel))) rfl
theorem k_491 : Cond.instantiable "java/lang/Throwable" (6 : Nat) ∈ a_GT := a_inT (a_t_3 (List.mem_of_getElem? (i := 11) (by decide +kernel))) rfl
theorem k_492 : Cond.native ({ cls := "java/lang/Throwable", name := "fillInStackTrace", desc := "(I)Ljava/lang/Throwable;" } : MethodName) ∈ a_GT := a_inT (a_t_3 (List.mem_of_getElem? (i := 12) (by decide +kernel))) rfl
theorem s_493 : Cond.stringRef "ShareTickets" (46 : Nat) "the text buffer is full" ∈ tables_1 := a_t_3 (List.mem_of_getElem? (i := 13) (by decide +kernel))
theorem k_494 : Cond.methodLink "ShareTickets" (48 : Nat) ({ cls := "java/lang/IllegalStateException", name := "<init>", desc := "(Ljava/lang/String;)V" } : MethodName) ∈ a_GT := a_inT (a_t_3 (List.mem_of_getElem? (i := 14) (by decide +kernel))) rfl
theorem k_495 : Cond.instanceMethod ({ cls := "java/lang/IllegalStateException", name := "<init>", desc := "(Ljava/lang/String;)V" } : MethodName) ∈ a_GT := a_inT (a_t_3 (List.mem_of_getElem? (i := 15) (by decide +kernel))) rfl
theorem k_496 : Cond.code ({ cls := "java/lang/IllegalStateException", name := "<init>", desc := "(Ljava/lang/String;)V" } : MethodName) prog_18_method_2_code (2 : Nat) (Option.none : Option ClassFile.FieldType) ∈ a_GT := a_inT (a_t_3 (List.mem_of_getElem? (i := 16) (by decide +kernel))) rfl
theorem k_497 : Cond.methodLink "java/lang/IllegalStateException" (7 : Nat) ({ cls := "java/lang/RuntimeException", name := "<init>", desc := "(Ljava/lang/String;)V" } : MethodName) ∈ a_GT := a_inT (a_t_3 (List.mem_of_getElem? (i := 17) (by decide +kernel))) rfl
theorem k_498 : Cond.instanceMethod ({ cls := "java/lang/RuntimeException", name := "<init>", desc := "(Ljava/lang/String;)V" } : MethodName) ∈ a_GT := a_inT (a_t_3 (List.mem_of_getElem? (i := 18) (by decide +kernel))) rfl
theorem k_499 : Cond.code ({ cls := "java/lang/RuntimeException", name := "<init>", desc := "(Ljava/lang/String;)V" } : MethodName) prog_21_method_2_code (2 : Nat) (Option.none : Option ClassFile.FieldType) ∈ a_GT := a_inT (a_t_3 (List.mem_of_getElem? (i := 19) (by decide +kernel))) rfl
theorem k_500 : Cond.methodLink "java/lang/RuntimeException" (7 : Nat) ({ cls := "java/lang/Exception", name := "<init>", desc := "(Ljava/lang/String;)V" } : MethodName) ∈ a_GT := a_inT (a_t_3 (List.mem_of_getElem? (i := 20) (by decide +kernel))) rfl
theorem k_501 : Cond.instanceMethod ({ cls := "java/lang/Exception", name := "<init>", desc := "(Ljava/lang/String;)V" } : MethodName) ∈ a_GT := a_inT (a_t_3 (List.mem_of_getElem? (i := 21) (by decide +kernel))) rfl
theorem k_502 : Cond.code ({ cls := "java/lang/Exception", name := "<init>", desc := "(Ljava/lang/String;)V" } : MethodName) prog_16_method_2_code (2 : Nat) (Option.none : Option ClassFile.FieldType) ∈ a_GT := a_inT (a_t_3 (List.mem_of_getElem? (i := 22) (by decide +kernel))) rfl
theorem k_503 : Cond.methodLink "java/lang/Exception" (7 : Nat) ({ cls := "java/lang/Throwable", name := "<init>", desc := "(Ljava/lang/String;)V" } : MethodName) ∈ a_GT := a_inT (a_t_3 (List.mem_of_getElem? (i := 23) (by decide +kernel))) rfl
theorem k_504 : Cond.instanceMethod ({ cls := "java/lang/Throwable", name := "<init>", desc := "(Ljava/lang/String;)V" } : MethodName) ∈ a_GT := a_inT (a_t_3 (List.mem_of_getElem? (i := 24) (by decide +kernel))) rfl
theorem k_505 : Cond.code ({ cls := "java/lang/Throwable", name := "<init>", desc := "(Ljava/lang/String;)V" } : MethodName) prog_26_method_2_code (2 : Nat) (Option.none : Option ClassFile.FieldType) ∈ a_GT := a_inT (a_t_3 (List.mem_of_getElem? (i := 25) (by decide +kernel))) rfl
theorem k_506 : Cond.fieldLink "java/lang/Throwable" (198 : Nat) "java/lang/Throwable" "backtrace" "Ljava/lang/Object;" ∈ a_GT := a_inT (a_t_3 (List.mem_of_getElem? (i := 26) (by decide +kernel))) rfl
theorem k_507 : Cond.fieldLink "java/lang/Throwable" (31 : Nat) "java/lang/Throwable" "detailMessage" "Ljava/lang/String;" ∈ a_GT := a_inT (a_t_3 (List.mem_of_getElem? (i := 27) (by decide +kernel))) rfl
theorem k_508 : Cond.fieldLink "java/lang/Throwable" (7 : Nat) "java/lang/Throwable" "cause" "Ljava/lang/Throwable;" ∈ a_GT := a_inT (a_t_3 (List.mem_of_getElem? (i := 28) (by decide +kernel))) rfl
theorem k_509 : Cond.fieldLink "java/lang/Throwable" (17 : Nat) "java/lang/Throwable" "stackTrace" "[Ljava/lang/StackTraceElement;" ∈ a_GT := a_inT (a_t_3 (List.mem_of_getElem? (i := 29) (by decide +kernel))) rfl
theorem k_510 : Cond.fieldLink "java/lang/Throwable" (24 : Nat) "java/lang/Throwable" "suppressedExceptions" "Ljava/util/List;" ∈ a_GT := a_inT (a_t_3 (List.mem_of_getElem? (i := 30) (by decide +kernel))) rfl
theorem k_515 : Cond.lays "java/lang/IllegalStateException" "java/lang/Throwable" "depth" "I" ∈ a_GT := a_inT (a_t_3 (List.mem_of_getElem? (i := 35) (by decide +kernel))) rfl
theorem k_518 : Cond.superclass "java/lang/IllegalStateException" "java/lang/RuntimeException" ∈ a_GT := a_inT (a_t_3 (List.mem_of_getElem? (i := 38) (by decide +kernel))) rfl
theorem k_519 : Cond.methodLink "ShareTickets" (51 : Nat) ({ cls := "ShareTickets$Text", name := "put", desc := "(I)V" } : MethodName) ∈ a_GT := a_inT (a_t_3 (List.mem_of_getElem? (i := 39) (by decide +kernel))) rfl
theorem k_520 : Cond.instanceMethod ({ cls := "ShareTickets$Text", name := "put", desc := "(I)V" } : MethodName) ∈ a_GT := a_inT (a_t_3 (List.mem_of_getElem? (i := 40) (by decide +kernel))) rfl
theorem k_521 : Cond.selects "ShareTickets$Text" ({ cls := "ShareTickets$Text", name := "put", desc := "(I)V" } : MethodName) ({ cls := "ShareTickets$Text", name := "put", desc := "(I)V" } : MethodName) ∈ a_GT := a_inT (a_t_3 (List.mem_of_getElem? (i := 41) (by decide +kernel))) rfl
theorem k_522 : Cond.code ({ cls := "ShareTickets$Text", name := "put", desc := "(I)V" } : MethodName) prog_9_method_2_code (3 : Nat) (Option.none : Option ClassFile.FieldType) ∈ a_GT := a_inT (a_t_3 (List.mem_of_getElem? (i := 42) (by decide +kernel))) rfl
theorem k_523 : Cond.methodLink "ShareTicketsLaw" (110 : Nat) ({ cls := "ShareTicketsLaw", name := "load", desc := "(LShareTickets;I[J)I" } : MethodName) ∈ a_GT := a_inT (a_t_3 (List.mem_of_getElem? (i := 43) (by decide +kernel))) rfl
theorem k_524 : Cond.static ({ cls := "ShareTicketsLaw", name := "load", desc := "(LShareTickets;I[J)I" } : MethodName) ∈ a_GT := a_inT (a_t_3 (List.mem_of_getElem? (i := 44) (by decide +kernel))) rfl
theorem k_525 : Cond.codeWith ({ cls := "ShareTicketsLaw", name := "load", desc := "(LShareTickets;I[J)I" } : MethodName) method_4_code (4 : Nat) (Option.some ClassFile.FieldType.int) [((0 : Nat), (9 : Nat), (12 : Nat), (19 : Nat))] ∈ a_GT := a_inT (a_t_3 (List.mem_of_getElem? (i := 45) (by decide +kernel))) rfl
theorem k_526 : Cond.classLink "ShareTicketsLaw" (19 : Nat) "java/lang/IllegalArgumentException" ∈ a_GT := a_inT (a_t_3 (List.mem_of_getElem? (i := 46) (by decide +kernel))) rfl
theorem k_527 : Cond.methodLink "ShareTicketsLaw" (15 : Nat) ({ cls := "ShareTickets", name := "load", desc := "(I)I" } : MethodName) ∈ a_GT := a_inT (a_t_3 (List.mem_of_getElem? (i := 47) (by decide +kernel))) rfl
theorem k_528 : Cond.instanceMethod ({ cls := "ShareTickets", name := "load", desc := "(I)I" } : MethodName) ∈ a_GT := a_inT (a_t_3 (List.mem_of_getElem? (i := 48) (by decide +kernel))) rfl
theorem k_529 : Cond.selects "ShareTickets" ({ cls := "ShareTickets", name := "load", desc := "(I)I" } : MethodName) ({ cls := "ShareTickets", name := "load", desc := "(I)I" } : MethodName) ∈ a_GT := a_inT (a_t_3 (List.mem_of_getElem? (i := 49) (by decide +kernel))) rfl
theorem k_530 : Cond.code ({ cls := "ShareTickets", name := "load", desc := "(I)I" } : MethodName) prog_1_method_3_code (2 : Nat) (Option.some ClassFile.FieldType.int) ∈ a_GT := a_inT (a_t_3 (List.mem_of_getElem? (i := 50) (by decide +kernel))) rfl
theorem k_531 : Cond.classLink "ShareTickets" (55 : Nat) "java/lang/IllegalArgumentException" ∈ a_GT := a_inT (a_t_3 (List.mem_of_getElem? (i := 51) (by decide +kernel))) rfl
theorem k_532 : Cond.instantiable "java/lang/IllegalArgumentException" (6 : Nat) ∈ a_GT := a_inT (a_t_3 (List.mem_of_getElem? (i := 52) (by decide +kernel))) rfl
theorem g_533 : Cond.castable "java/lang/IllegalArgumentException" "java/lang/IllegalArgumentException" ∈ a_GN := a_inN (a_t_3 (List.mem_of_getElem? (i := 53) (by decide +kernel))) rfl
theorem k_534 : Cond.selects "java/lang/IllegalArgumentException" ({ cls := "java/lang/Throwable", name := "fillInStackTrace", desc := "(I)Ljava/lang/Throwable;" } : MethodName) ({ cls := "java/lang/Throwable", name := "fillInStackTrace", desc := "(I)Ljava/lang/Throwable;" } : MethodName) ∈ a_GT := a_inT (a_t_3 (List.mem_of_getElem? (i := 54) (by decide +kernel))) rfl
theorem k_535 : Cond.lays "java/lang/IllegalArgumentException" "java/lang/Throwable" "cause" "Ljava/lang/Throwable;" ∈ a_GT := a_inT (a_t_3 (List.mem_of_getElem? (i := 55) (by decide +kernel))) rfl
theorem k_536 : Cond.lays "java/lang/IllegalArgumentException" "java/lang/Throwable" "stackTrace" "[Ljava/lang/StackTraceElement;" ∈ a_GT := a_inT (a_t_3 (List.mem_of_getElem? (i := 56) (by decide +kernel))) rfl
theorem k_537 : Cond.lays "java/lang/IllegalArgumentException" "java/lang/Throwable" "suppressedExceptions" "Ljava/util/List;" ∈ a_GT := a_inT (a_t_3 (List.mem_of_getElem? (i := 57) (by decide +kernel))) rfl
theorem k_538 : Cond.lays "java/lang/IllegalArgumentException" "java/lang/Throwable" "detailMessage" "Ljava/lang/String;" ∈ a_GT := a_inT (a_t_3 (List.mem_of_getElem? (i := 58) (by decide +kernel))) rfl
theorem k_539 : Cond.lays "java/lang/IllegalArgumentException" "java/lang/Throwable" "backtrace" "Ljava/lang/Object;" ∈ a_GT := a_inT (a_t_3 (List.mem_of_getElem? (i := 59) (by decide +kernel))) rfl
theorem s_540 : Cond.stringRef "ShareTickets" (57 : Nat) "the buffer has no such length" ∈ tables_1 := a_t_3 (List.mem_of_getElem? (i := 60) (by decide +kernel))
theorem k_541 : Cond.methodLink "ShareTickets" (59 : Nat) ({ cls := "java/lang/IllegalArgumentException", name := "<init>", desc := "(Ljava/lang/String;)V" } : MethodName) ∈ a_GT := a_inT (a_t_3 (List.mem_of_getElem? (i := 61) (by decide +kernel))) rfl
theorem k_542 : Cond.instanceMethod ({ cls := "java/lang/IllegalArgumentException", name := "<init>", desc := "(Ljava/lang/String;)V" } : MethodName) ∈ a_GT := a_inT (a_t_3 (List.mem_of_getElem? (i := 62) (by decide +kernel))) rfl
theorem k_543 : Cond.code ({ cls := "java/lang/IllegalArgumentException", name := "<init>", desc := "(Ljava/lang/String;)V" } : MethodName) prog_17_method_2_code (2 : Nat) (Option.none : Option ClassFile.FieldType) ∈ a_GT := a_inT (a_t_3 (List.mem_of_getElem? (i := 63) (by decide +kernel))) rfl
theorem k_544 : Cond.methodLink "java/lang/IllegalArgumentException" (7 : Nat) ({ cls := "java/lang/RuntimeException", name := "<init>", desc := "(Ljava/lang/String;)V" } : MethodName) ∈ a_GT := a_inT (a_t_3 (List.mem_of_getElem? (i := 64) (by decide +kernel))) rfl
theorem k_545 : Cond.lays "java/lang/IllegalArgumentException" "java/lang/Throwable" "depth" "I" ∈ a_GT := a_inT (a_t_3 (List.mem_of_getElem? (i := 65) (by decide +kernel))) rfl
theorem k_546 : Cond.superclass "java/lang/IllegalArgumentException" "java/lang/RuntimeException" ∈ a_GT := a_inT (a_t_3 (List.mem_of_getElem? (i := 66) (by decide +kernel))) rfl
theorem k_547 : Cond.methodLink "ShareTickets" (60 : Nat) ({ cls := "ShareTickets$Text", name := "read", desc := "(ILShareTickets$Place;)V" } : MethodName) ∈ a_GT := a_inT (a_t_3 (List.mem_of_getElem? (i := 67) (by decide +kernel))) rfl
theorem k_548 : Cond.instanceMethod ({ cls := "ShareTickets$Text", name := "read", desc := "(ILShareTickets$Place;)V" } : MethodName) ∈ a_GT := a_inT (a_t_3 (List.mem_of_getElem? (i := 68) (by decide +kernel))) rfl
theorem k_549 : Cond.selects "ShareTickets$Text" ({ cls := "ShareTickets$Text", name := "read", desc := "(ILShareTickets$Place;)V" } : MethodName) ({ cls := "ShareTickets$Text", name := "read", desc := "(ILShareTickets$Place;)V" } : MethodName) ∈ a_GT := a_inT (a_t_3 (List.mem_of_getElem? (i := 69) (by decide +kernel))) rfl
theorem k_550 : Cond.code ({ cls := "ShareTickets$Text", name := "read", desc := "(ILShareTickets$Place;)V" } : MethodName) prog_9_method_3_code (4 : Nat) (Option.none : Option ClassFile.FieldType) ∈ a_GT := a_inT (a_t_3 (List.mem_of_getElem? (i := 70) (by decide +kernel))) rfl
theorem k_551 : Cond.methodLink "ShareTickets$Text" (22 : Nat) ({ cls := "java/lang/Math", name := "min", desc := "(II)I" } : MethodName) ∈ a_GT := a_inT (a_t_3 (List.mem_of_getElem? (i := 71) (by decide +kernel))) rfl
theorem k_552 : Cond.static ({ cls := "java/lang/Math", name := "min", desc := "(II)I" } : MethodName) ∈ a_GT := a_inT (a_t_3 (List.mem_of_getElem? (i := 72) (by decide +kernel))) rfl
theorem k_553 : Cond.code ({ cls := "java/lang/Math", name := "min", desc := "(II)I" } : MethodName) prog_20_method_69_code (2 : Nat) (Option.some ClassFile.FieldType.int) ∈ a_GT := a_inT (a_t_3 (List.mem_of_getElem? (i := 73) (by decide +kernel))) rfl
theorem k_554 : Cond.methodLink "ShareTickets$Text" (37 : Nat) ({ cls := "ShareTickets$Place", name := "clear", desc := "()V" } : MethodName) ∈ a_GT := a_inT (a_t_3 (List.mem_of_getElem? (i := 74) (by decide +kernel))) rfl
theorem k_555 : Cond.methodLink "ShareTickets$Text" (42 : Nat) ({ cls := "ShareTickets$Text", name := "isOver", desc := "()Z" } : MethodName) ∈ a_GT := a_inT (a_t_3 (List.mem_of_getElem? (i := 75) (by decide +kernel))) rfl
theorem k_557 : Cond.instanceMethod ({ cls := "ShareTickets$Text", name := "isOver", desc := "()Z" } : MethodName) ∈ a_GT := a_inT (a_t_3 (List.mem_of_getElem? (i := 77) (by decide +kernel))) rfl
theorem k_558 : Cond.code ({ cls := "ShareTickets$Text", name := "isOver", desc := "()Z" } : MethodName) prog_9_method_4_code (1 : Nat) (Option.some ClassFile.FieldType.boolean) ∈ a_GT := a_inT (a_t_3 (List.mem_of_getElem? (i := 78) (by decide +kernel))) rfl
theorem k_559 : Cond.methodLink "ShareTickets$Text" (50 : Nat) ({ cls := "ShareTickets$Text", name := "skipSpaces", desc := "()V" } : MethodName) ∈ a_GT := a_inT (a_t_3 (List.mem_of_getElem? (i := 79) (by decide +kernel))) rfl
theorem k_561 : Cond.instanceMethod ({ cls := "ShareTickets$Text", name := "skipSpaces", desc := "()V" } : MethodName) ∈ a_GT := a_inT (a_t_3 (List.mem_of_getElem? (i := 81) (by decide +kernel))) rfl
theorem k_562 : Cond.code ({ cls := "ShareTickets$Text", name := "skipSpaces", desc := "()V" } : MethodName) prog_9_method_12_code (1 : Nat) (Option.none : Option ClassFile.FieldType) ∈ a_GT := a_inT (a_t_3 (List.mem_of_getElem? (i := 82) (by decide +kernel))) rfl
theorem k_563 : Cond.methodLink "ShareTickets$Text" (148 : Nat) ({ cls := "ShareTickets$Text", name := "byteAt", desc := "(I)I" } : MethodName) ∈ a_GT := a_inT (a_t_3 (List.mem_of_getElem? (i := 83) (by decide +kernel))) rfl
theorem k_565 : Cond.instanceMethod ({ cls := "ShareTickets$Text", name := "byteAt", desc := "(I)I" } : MethodName) ∈ a_GT := a_inT (a_t_3 (List.mem_of_getElem? (i := 85) (by decide +kernel))) rfl
theorem k_566 : Cond.code ({ cls := "ShareTickets$Text", name := "byteAt", desc := "(I)I" } : MethodName) prog_9_method_16_code (2 : Nat) (Option.some ClassFile.FieldType.int) ∈ a_GT := a_inT (a_t_3 (List.mem_of_getElem? (i := 86) (by decide +kernel))) rfl
theorem k_567 : Cond.methodLink "ShareTickets$Text" (46 : Nat) ({ cls := "ShareTickets$Text", name := "readStatement", desc := "(LShareTickets$Place;)V" } : MethodName) ∈ a_GT := a_inT (a_t_3 (List.mem_of_getElem? (i := 87) (by decide +kernel))) rfl
theorem k_569 : Cond.instanceMethod ({ cls := "ShareTickets$Text", name := "readStatement", desc := "(LShareTickets$Place;)V" } : MethodName) ∈ a_GT := a_inT (a_t_3 (List.mem_of_getElem? (i := 89) (by decide +kernel))) rfl
theorem k_570 : Cond.code ({ cls := "ShareTickets$Text", name := "readStatement", desc := "(LShareTickets$Place;)V" } : MethodName) prog_9_method_5_code (3 : Nat) (Option.none : Option ClassFile.FieldType) ∈ a_GT := a_inT (a_t_3 (List.mem_of_getElem? (i := 90) (by decide +kernel))) rfl
theorem k_571 : Cond.methodLink "ShareTickets$Text" (53 : Nat) ({ cls := "ShareTickets$Text", name := "skipWord", desc := "()V" } : MethodName) ∈ a_GT := a_inT (a_t_3 (List.mem_of_getElem? (i := 91) (by decide +kernel))) rfl
theorem k_573 : Cond.instanceMethod ({ cls := "ShareTickets$Text", name := "skipWord", desc := "()V" } : MethodName) ∈ a_GT := a_inT (a_t_3 (List.mem_of_getElem? (i := 93) (by decide +kernel))) rfl
theorem k_574 : Cond.code ({ cls := "ShareTickets$Text", name := "skipWord", desc := "()V" } : MethodName) prog_9_method_13_code (1 : Nat) (Option.none : Option ClassFile.FieldType) ∈ a_GT := a_inT (a_t_3 (List.mem_of_getElem? (i := 94) (by decide +kernel))) rfl
theorem s_575 : Cond.stringRef "ShareTickets$Text" (56 : Nat) "user" ∈ tables_1 := a_t_3 (List.mem_of_getElem? (i := 95) (by decide +kernel))
theorem k_576 : Cond.methodLink "ShareTickets$Text" (58 : Nat) ({ cls := "ShareTickets$Text", name := "isWord", desc := "(Ljava/lang/String;I)Z" } : MethodName) ∈ a_GT := a_inT (a_t_3 (List.mem_of_getElem? (i := 96) (by decide +kernel))) rfl
theorem k_578 : Cond.instanceMethod ({ cls := "ShareTickets$Text", name := "isWord", desc := "(Ljava/lang/String;I)Z" } : MethodName) ∈ a_GT := a_inT (a_t_3 (List.mem_of_getElem? (i := 98) (by decide +kernel))) rfl
theorem k_579 : Cond.code ({ cls := "ShareTickets$Text", name := "isWord", desc := "(Ljava/lang/String;I)Z" } : MethodName) prog_9_method_14_code (4 : Nat) (Option.some ClassFile.FieldType.boolean) ∈ a_GT := a_inT (a_t_3 (List.mem_of_getElem? (i := 99) (by decide +kernel))) rfl
theorem k_580 : Cond.methodLink "ShareTickets$Text" (155 : Nat) ({ cls := "java/lang/String", name := "length", desc := "()I" } : MethodName) ∈ a_GT := a_inT (a_t_3 (List.mem_of_getElem? (i := 100) (by decide +kernel))) rfl
theorem k_581 : Cond.instanceMethod ({ cls := "java/lang/String", name := "length", desc := "()I" } : MethodName) ∈ a_GT := a_inT (a_t_3 (List.mem_of_getElem? (i := 101) (by decide +kernel))) rfl
theorem k_582 : Cond.selects "java/lang/String" ({ cls := "java/lang/String", name := "length", desc := "()I" } : MethodName) ({ cls := "java/lang/String", name := "length", desc := "()I" } : MethodName) ∈ a_GT := a_inT (a_t_3 (List.mem_of_getElem? (i := 102) (by decide +kernel))) rfl
theorem k_583 : Cond.code ({ cls := "java/lang/String", name := "length", desc := "()I" } : MethodName) prog_22_method_54_code (1 : Nat) (Option.some ClassFile.FieldType.int) ∈ a_GT := a_inT (a_t_3 (List.mem_of_getElem? (i := 103) (by decide +kernel))) rfl
theorem k_584 : Cond.methodLink "java/lang/String" (335 : Nat) ({ cls := "java/lang/String", name := "coder", desc := "()B" } : MethodName) ∈ a_GT := a_inT (a_t_3 (List.mem_of_getElem? (i := 104) (by decide +kernel))) rfl
theorem k_585 : Cond.instanceMethod ({ cls := "java/lang/String", name := "coder", desc := "()B" } : MethodName) ∈ a_GT := a_inT (a_t_3 (List.mem_of_getElem? (i := 105) (by decide +kernel))) rfl
theorem k_586 : Cond.selects "java/lang/String" ({ cls := "java/lang/String", name := "coder", desc := "()B" } : MethodName) ({ cls := "java/lang/String", name := "coder", desc := "()B" } : MethodName) ∈ a_GT := a_inT (a_t_3 (List.mem_of_getElem? (i := 106) (by decide +kernel))) rfl
theorem k_587 : Cond.code ({ cls := "java/lang/String", name := "coder", desc := "()B" } : MethodName) prog_22_method_152_code (1 : Nat) (Option.some ClassFile.FieldType.byte) ∈ a_GT := a_inT (a_t_3 (List.mem_of_getElem? (i := 107) (by decide +kernel))) rfl
theorem k_588 : Cond.fieldLink "java/lang/String" (38 : Nat) "java/lang/String" "COMPACT_STRINGS" "Z" ∈ a_GT := a_inT (a_t_3 (List.mem_of_getElem? (i := 108) (by decide +kernel))) rfl
theorem k_590 : Cond.methodLink "ShareTickets$Text" (160 : Nat) ({ cls := "java/lang/String", name := "charAt", desc := "(I)C" } : MethodName) ∈ a_GT := a_inT (a_t_3 (List.mem_of_getElem? (i := 110) (by decide +kernel))) rfl
theorem k_591 : Cond.instanceMethod ({ cls := "java/lang/String", name := "charAt", desc := "(I)C" } : MethodName) ∈ a_GT := a_inT (a_t_3 (List.mem_of_getElem? (i := 111) (by decide +kernel))) rfl
theorem k_592 : Cond.selects "java/lang/String" ({ cls := "java/lang/String", name := "charAt", desc := "(I)C" } : MethodName) ({ cls := "java/lang/String", name := "charAt", desc := "(I)C" } : MethodName) ∈ a_GT := a_inT (a_t_3 (List.mem_of_getElem? (i := 112) (by decide +kernel))) rfl
theorem k_593 : Cond.code ({ cls := "java/lang/String", name := "charAt", desc := "(I)C" } : MethodName) prog_22_method_56_code (2 : Nat) (Option.some ClassFile.FieldType.char) ∈ a_GT := a_inT (a_t_3 (List.mem_of_getElem? (i := 113) (by decide +kernel))) rfl
theorem k_594 : Cond.methodLink "java/lang/String" (492 : Nat) ({ cls := "java/lang/String", name := "isLatin1", desc := "()Z" } : MethodName) ∈ a_GT := a_inT (a_t_3 (List.mem_of_getElem? (i := 114) (by decide +kernel))) rfl
theorem k_595 : Cond.instanceMethod ({ cls := "java/lang/String", name := "isLatin1", desc := "()Z" } : MethodName) ∈ a_GT := a_inT (a_t_3 (List.mem_of_getElem? (i := 115) (by decide +kernel))) rfl
theorem k_596 : Cond.selects "java/lang/String" ({ cls := "java/lang/String", name := "isLatin1", desc := "()Z" } : MethodName) ({ cls := "java/lang/String", name := "isLatin1", desc := "()Z" } : MethodName) ∈ a_GT := a_inT (a_t_3 (List.mem_of_getElem? (i := 116) (by decide +kernel))) rfl
theorem k_597 : Cond.code ({ cls := "java/lang/String", name := "isLatin1", desc := "()Z" } : MethodName) prog_22_method_154_code (1 : Nat) (Option.some ClassFile.FieldType.boolean) ∈ a_GT := a_inT (a_t_3 (List.mem_of_getElem? (i := 117) (by decide +kernel))) rfl
theorem k_598 : Cond.methodLink "java/lang/String" (495 : Nat) ({ cls := "java/lang/StringLatin1", name := "charAt", desc := "([BI)C" } : MethodName) ∈ a_GT := a_inT (a_t_3 (List.mem_of_getElem? (i := 118) (by decide +kernel))) rfl
theorem k_599 : Cond.static ({ cls := "java/lang/StringLatin1", name := "charAt", desc := "([BI)C" } : MethodName) ∈ a_GT := a_inT (a_t_3 (List.mem_of_getElem? (i := 119) (by decide +kernel))) rfl
theorem k_600 : Cond.code ({ cls := "java/lang/StringLatin1", name := "charAt", desc := "([BI)C" } : MethodName) prog_23_method_2_code (2 : Nat) (Option.some ClassFile.FieldType.char) ∈ a_GT := a_inT (a_t_3 (List.mem_of_getElem? (i := 120) (by decide +kernel))) rfl
theorem k_601 : Cond.methodLink "java/lang/StringLatin1" (9 : Nat) ({ cls := "java/lang/String", name := "checkIndex", desc := "(II)V" } : MethodName) ∈ a_GT := a_inT (a_t_3 (List.mem_of_getElem? (i := 121) (by decide +kernel))) rfl
theorem k_602 : Cond.static ({ cls := "java/lang/String", name := "checkIndex", desc := "(II)V" } : MethodName) ∈ a_GT := a_inT (a_t_3 (List.mem_of_getElem? (i := 122) (by decide +kernel))) rfl
theorem k_603 : Cond.code ({ cls := "java/lang/String", name := "checkIndex", desc := "(II)V" } : MethodName) prog_22_method_155_code (2 : Nat) (Option.none : Option ClassFile.FieldType) ∈ a_GT := a_inT (a_t_3 (List.mem_of_getElem? (i := 123) (by decide +kernel))) rfl
theorem k_604 : Cond.fieldLink "java/lang/String" (1053 : Nat) "jdk/internal/util/Preconditions" "SIOOBE_FORMATTER" "Ljava/util/function/BiFunction;" ∈ a_GT := a_inT (a_t_3 (List.mem_of_getElem? (i := 124) (by decide +kernel))) rfl
theorem k_606 : Cond.methodLink "java/lang/String" (1059 : Nat) ({ cls := "jdk/internal/util/Preconditions", name := "checkIndex", desc := "(IILjava/util/function/BiFunction;)I" } : MethodName) ∈ a_GT := a_inT (a_t_3 (List.mem_of_getElem? (i := 126) (by decide +kernel))) rfl
theorem k_607 : Cond.static ({ cls := "jdk/internal/util/Preconditions", name := "checkIndex", desc := "(IILjava/util/function/BiFunction;)I" } : MethodName) ∈ a_GT := a_inT (a_t_3 (List.mem_of_getElem? (i := 127) (by decide +kernel))) rfl
theorem k_608 : Cond.code ({ cls := "jdk/internal/util/Preconditions", name := "checkIndex", desc := "(IILjava/util/function/BiFunction;)I" } : MethodName) prog_30_method_11_code (3 : Nat) (Option.some ClassFile.FieldType.int) ∈ a_GT := a_inT (a_t_3 (List.mem_of_getElem? (i := 128) (by decide +kernel))) rfl
theorem k_609 : Cond.methodLink "java/lang/String" (498 : Nat) ({ cls := "java/lang/StringUTF16", name := "charAt", desc := "([BI)C" } : MethodName) ∈ a_GT := a_inT (a_t_3 (List.mem_of_getElem? (i := 129) (by decide +kernel))) rfl
theorem k_610 : Cond.static ({ cls := "java/lang/StringUTF16", name := "charAt", desc := "([BI)C" } : MethodName) ∈ a_GT := a_inT (a_t_3 (List.mem_of_getElem? (i := 130) (by decide +kernel))) rfl
theorem k_611 : Cond.code ({ cls := "java/lang/StringUTF16", name := "charAt", desc := "([BI)C" } : MethodName) prog_24_method_83_code (2 : Nat) (Option.some ClassFile.FieldType.char) ∈ a_GT := a_inT (a_t_3 (List.mem_of_getElem? (i := 131) (by decide +kernel))) rfl
theorem k_612 : Cond.methodLink "java/lang/StringUTF16" (67 : Nat) ({ cls := "java/lang/StringUTF16", name := "checkIndex", desc := "(I[B)V" } : MethodName) ∈ a_GT := a_inT (a_t_3 (List.mem_of_getElem? (i := 132) (by decide +kernel))) rfl
theorem k_613 : Cond.static ({ cls := "java/lang/StringUTF16", name := "checkIndex", desc := "(I[B)V" } : MethodName) ∈ a_GT := a_inT (a_t_3 (List.mem_of_getElem? (i := 133) (by decide +kernel))) rfl
theorem k_614 : Cond.code ({ cls := "java/lang/StringUTF16", name := "checkIndex", desc := "(I[B)V" } : MethodName) prog_24_method_91_code (2 : Nat) (Option.none : Option ClassFile.FieldType) ∈ a_GT := a_inT (a_t_3 (List.mem_of_getElem? (i := 134) (by decide +kernel))) rfl
theorem k_615 : Cond.methodLink "java/lang/StringUTF16" (48 : Nat) ({ cls := "java/lang/StringUTF16", name := "length", desc := "([B)I" } : MethodName) ∈ a_GT := a_inT (a_t_3 (List.mem_of_getElem? (i := 135) (by decide +kernel))) rfl
theorem k_616 : Cond.static ({ cls := "java/lang/StringUTF16", name := "length", desc := "([B)I" } : MethodName) ∈ a_GT := a_inT (a_t_3 (List.mem_of_getElem? (i := 136) (by decide +kernel))) rfl
theorem k_617 : Cond.code ({ cls := "java/lang/StringUTF16", name := "length", desc := "([B)I" } : MethodName) prog_24_method_6_code (1 : Nat) (Option.some ClassFile.FieldType.int) ∈ a_GT := a_inT (a_t_3 (List.mem_of_getElem? (i := 137) (by decide +kernel))) rfl
theorem k_618 : Cond.methodLink "java/lang/StringUTF16" (414 : Nat) ({ cls := "java/lang/String", name := "checkIndex", desc := "(II)V" } : MethodName) ∈ a_GT := a_inT (a_t_3 (List.mem_of_getElem? (i := 138) (by decide +kernel))) rfl
theorem k_619 : Cond.methodLink "java/lang/StringUTF16" (71 : Nat) ({ cls := "java/lang/StringUTF16", name := "getChar", desc := "([BI)C" } : MethodName) ∈ a_GT := a_inT (a_t_3 (List.mem_of_getElem? (i := 139) (by decide +kernel))) rfl
theorem k_620 : Cond.static ({ cls := "java/lang/StringUTF16", name := "getChar", desc := "([BI)C" } : MethodName) ∈ a_GT := a_inT (a_t_3 (List.mem_of_getElem? (i := 140) (by decide +kernel))) rfl
theorem k_621 : Cond.code ({ cls := "java/lang/StringUTF16", name := "getChar", desc := "([BI)C" } : MethodName) prog_24_method_5_code (2 : Nat) (Option.some ClassFile.FieldType.char) ∈ a_GT := a_inT (a_t_3 (List.mem_of_getElem? (i := 141) (by decide +kernel))) rfl
theorem k_622 : Cond.fieldLink "java/lang/StringUTF16" (44 : Nat) "java/lang/StringUTF16" "$assertionsDisabled" "Z" ∈ a_GT := a_inT (a_t_3 (List.mem_of_getElem? (i := 142) (by decide +kernel))) rfl
theorem k_624 : Cond.fieldLink "java/lang/StringUTF16" (59 : Nat) "java/lang/StringUTF16" "HI_BYTE_SHIFT" "I" ∈ a_GT := a_inT (a_t_3 (List.mem_of_getElem? (i := 144) (by decide +kernel))) rfl
theorem k_626 : Cond.fieldLink "java/lang/StringUTF16" (63 : Nat) "java/lang/StringUTF16" "LO_BYTE_SHIFT" "I" ∈ a_GT := a_inT (a_t_3 (List.mem_of_getElem? (i := 146) (by decide +kernel))) rfl
theorem k_628 : Cond.methodLink "ShareTickets$Text" (62 : Nat) ({ cls := "ShareTickets$Text", name := "readUser", desc := "(LShareTickets$Place;I)V" } : MethodName) ∈ a_GT := a_inT (a_t_3 (List.mem_of_getElem? (i := 148) (by decide +kernel))) rfl
theorem k_630 : Cond.instanceMethod ({ cls := "ShareTickets$Text", name := "readUser", desc := "(LShareTickets$Place;I)V" } : MethodName) ∈ a_GT := a_inT (a_t_3 (List.mem_of_getElem? (i := 150) (by decide +kernel))) rfl
theorem k_631 : Cond.code ({ cls := "ShareTickets$Text", name := "readUser", desc := "(LShareTickets$Place;I)V" } : MethodName) prog_9_method_6_code (5 : Nat) (Option.none : Option ClassFile.FieldType) ∈ a_GT := a_inT (a_t_3 (List.mem_of_getElem? (i := 151) (by decide +kernel))) rfl
theorem k_632 : Cond.methodLink "ShareTickets$Text" (96 : Nat) ({ cls := "ShareTickets$Tree", name := "isFull", desc := "()Z" } : MethodName) ∈ a_GT := a_inT (a_t_3 (List.mem_of_getElem? (i := 152) (by decide +kernel))) rfl
theorem k_633 : Cond.instanceMethod ({ cls := "ShareTickets$Tree", name := "isFull", desc := "()Z" } : MethodName) ∈ a_GT := a_inT (a_t_3 (List.mem_of_getElem? (i := 153) (by decide +kernel))) rfl
theorem k_634 : Cond.selects "ShareTickets$Tree" ({ cls := "ShareTickets$Tree", name := "isFull", desc := "()Z" } : MethodName) ({ cls := "ShareTickets$Tree", name := "isFull", desc := "()Z" } : MethodName) ∈ a_GT := a_inT (a_t_3 (List.mem_of_getElem? (i := 154) (by decide +kernel))) rfl
theorem k_635 : Cond.code ({ cls := "ShareTickets$Tree", name := "isFull", desc := "()Z" } : MethodName) prog_10_method_5_code (1 : Nat) (Option.some ClassFile.FieldType.boolean) ∈ a_GT := a_inT (a_t_3 (List.mem_of_getElem? (i := 155) (by decide +kernel))) rfl
theorem k_636 : Cond.methodLink "ShareTickets$Text" (85 : Nat) ({ cls := "ShareTickets$Text", name := "fail", desc := "(II)V" } : MethodName) ∈ a_GT := a_inT (a_t_3 (List.mem_of_getElem? (i := 156) (by decide +kernel))) rfl
theorem k_638 : Cond.instanceMethod ({ cls := "ShareTickets$Text", name := "fail", desc := "(II)V" } : MethodName) ∈ a_GT := a_inT (a_t_3 (List.mem_of_getElem? (i := 158) (by decide +kernel))) rfl
theorem k_639 : Cond.code ({ cls := "ShareTickets$Text", name := "fail", desc := "(II)V" } : MethodName) prog_9_method_17_code (3 : Nat) (Option.none : Option ClassFile.FieldType) ∈ a_GT := a_inT (a_t_3 (List.mem_of_getElem? (i := 159) (by decide +kernel))) rfl
theorem k_640 : Cond.methodLink "ShareTickets$Text" (104 : Nat) ({ cls := "ShareTickets$Text", name := "readNumber", desc := "(II)I" } : MethodName) ∈ a_GT := a_inT (a_t_3 (List.mem_of_getElem? (i := 160) (by decide +kernel))) rfl
theorem k_642 : Cond.instanceMethod ({ cls := "ShareTickets$Text", name := "readNumber", desc := "(II)I" } : MethodName) ∈ a_GT := a_inT (a_t_3 (List.mem_of_getElem? (i := 162) (by decide +kernel))) rfl
theorem k_643 : Cond.code ({ cls := "ShareTickets$Text", name := "readNumber", desc := "(II)I" } : MethodName) prog_9_method_10_code (4 : Nat) (Option.some ClassFile.FieldType.int) ∈ a_GT := a_inT (a_t_3 (List.mem_of_getElem? (i := 163) (by decide +kernel))) rfl
theorem k_644 : Cond.methodLink "ShareTickets$Text" (152 : Nat) ({ cls := "ShareTickets$Text", name := "isDigit", desc := "(I)Z" } : MethodName) ∈ a_GT := a_inT (a_t_3 (List.mem_of_getElem? (i := 164) (by decide +kernel))) rfl
theorem k_645 : Cond.static ({ cls := "ShareTickets$Text", name := "isDigit", desc := "(I)Z" } : MethodName) ∈ a_GT := a_inT (a_t_3 (List.mem_of_getElem? (i := 165) (by decide +kernel))) rfl
theorem k_646 : Cond.code ({ cls := "ShareTickets$Text", name := "isDigit", desc := "(I)Z" } : MethodName) prog_9_method_15_code (1 : Nat) (Option.some ClassFile.FieldType.boolean) ∈ a_GT := a_inT (a_t_3 (List.mem_of_getElem? (i := 166) (by decide +kernel))) rfl
theorem k_647 : Cond.methodLink "ShareTickets$Text" (111 : Nat) ({ cls := "ShareTickets$Jobs", name := "anyOf", desc := "(I)Z" } : MethodName) ∈ a_GT := a_inT (a_t_3 (List.mem_of_getElem? (i := 167) (by decide +kernel))) rfl
theorem k_648 : Cond.instanceMethod ({ cls := "ShareTickets$Jobs", name := "anyOf", desc := "(I)Z" } : MethodName) ∈ a_GT := a_inT (a_t_3 (List.mem_of_getElem? (i := 168) (by decide +kernel))) rfl
theorem k_649 : Cond.selects "ShareTickets$Jobs" ({ cls := "ShareTickets$Jobs", name := "anyOf", desc := "(I)Z" } : MethodName) ({ cls := "ShareTickets$Jobs", name := "anyOf", desc := "(I)Z" } : MethodName) ∈ a_GT := a_inT (a_t_3 (List.mem_of_getElem? (i := 169) (by decide +kernel))) rfl
theorem k_650 : Cond.code ({ cls := "ShareTickets$Jobs", name := "anyOf", desc := "(I)Z" } : MethodName) prog_3_method_8_code (3 : Nat) (Option.some ClassFile.FieldType.boolean) ∈ a_GT := a_inT (a_t_3 (List.mem_of_getElem? (i := 170) (by decide +kernel))) rfl
theorem k_651 : Cond.methodLink "ShareTickets$Text" (120 : Nat) ({ cls := "ShareTickets$Tree", name := "add", desc := "(II)V" } : MethodName) ∈ a_GT := a_inT (a_t_3 (List.mem_of_getElem? (i := 171) (by decide +kernel))) rfl
theorem k_652 : Cond.instanceMethod ({ cls := "ShareTickets$Tree", name := "add", desc := "(II)V" } : MethodName) ∈ a_GT := a_inT (a_t_3 (List.mem_of_getElem? (i := 172) (by decide +kernel))) rfl
theorem k_653 : Cond.selects "ShareTickets$Tree" ({ cls := "ShareTickets$Tree", name := "add", desc := "(II)V" } : MethodName) ({ cls := "ShareTickets$Tree", name := "add", desc := "(II)V" } : MethodName) ∈ a_GT := a_inT (a_t_3 (List.mem_of_getElem? (i := 173) (by decide +kernel))) rfl
theorem k_654 : Cond.code ({ cls := "ShareTickets$Tree", name := "add", desc := "(II)V" } : MethodName) prog_10_method_8_code (3 : Nat) (Option.none : Option ClassFile.FieldType) ∈ a_GT := a_inT (a_t_3 (List.mem_of_getElem? (i := 174) (by decide +kernel))) rfl
theorem k_655 : Cond.methodLink "ShareTickets$Tree" (42 : Nat) ({ cls := "ShareTickets$Tree", name := "isFull", desc := "()Z" } : MethodName) ∈ a_GT := a_inT (a_t_3 (List.mem_of_getElem? (i := 175) (by decide +kernel))) rfl
theorem k_656 : Cond.methodLink "ShareTickets$Tree" (50 : Nat) ({ cls := "ShareTickets$Tree", name := "dealBase", desc := "()V" } : MethodName) ∈ a_GT := a_inT (a_t_3 (List.mem_of_getElem? (i := 176) (by decide +kernel))) rfl
theorem k_658 : Cond.instanceMethod ({ cls := "ShareTickets$Tree", name := "dealBase", desc := "()V" } : MethodName) ∈ a_GT := a_inT (a_t_3 (List.mem_of_getElem? (i := 178) (by decide +kernel))) rfl
theorem k_659 : Cond.code ({ cls := "ShareTickets$Tree", name := "dealBase", desc := "()V" } : MethodName) prog_10_method_10_code (4 : Nat) (Option.none : Option ClassFile.FieldType) ∈ a_GT := a_inT (a_t_3 (List.mem_of_getElem? (i := 179) (by decide +kernel))) rfl
theorem k_660 : Cond.methodLink "ShareTickets$Tree" (53 : Nat) ({ cls := "ShareTickets$Tree", name := "sharesUnder", desc := "(I)I" } : MethodName) ∈ a_GT := a_inT (a_t_3 (List.mem_of_getElem? (i := 180) (by decide +kernel))) rfl
theorem k_662 : Cond.instanceMethod ({ cls := "ShareTickets$Tree", name := "sharesUnder", desc := "(I)I" } : MethodName) ∈ a_GT := a_inT (a_t_3 (List.mem_of_getElem? (i := 182) (by decide +kernel))) rfl
theorem k_663 : Cond.code ({ cls := "ShareTickets$Tree", name := "sharesUnder", desc := "(I)I" } : MethodName) prog_10_method_11_code (4 : Nat) (Option.some ClassFile.FieldType.int) ∈ a_GT := a_inT (a_t_3 (List.mem_of_getElem? (i := 183) (by decide +kernel))) rfl
theorem s_664 : Cond.stringRef "ShareTickets$Text" (66 : Nat) "machine" ∈ tables_1 := a_t_3 (List.mem_of_getElem? (i := 184) (by decide +kernel))
theorem k_665 : Cond.methodLink "ShareTickets$Text" (68 : Nat) ({ cls := "ShareTickets$Text", name := "readMachine", desc := "(LShareTickets$Place;I)V" } : MethodName) ∈ a_GT := a_inT (a_t_3 (List.mem_of_getElem? (i := 185) (by decide +kernel))) rfl
theorem k_667 : Cond.instanceMethod ({ cls := "ShareTickets$Text", name := "readMachine", desc := "(LShareTickets$Place;I)V" } : MethodName) ∈ a_GT := a_inT (a_t_3 (List.mem_of_getElem? (i := 187) (by decide +kernel))) rfl
theorem k_668 : Cond.code ({ cls := "ShareTickets$Text", name := "readMachine", desc := "(LShareTickets$Place;I)V" } : MethodName) prog_9_method_7_code (4 : Nat) (Option.none : Option ClassFile.FieldType) ∈ a_GT := a_inT (a_t_3 (List.mem_of_getElem? (i := 188) (by decide +kernel))) rfl
theorem k_669 : Cond.methodLink "ShareTickets$Text" (127 : Nat) ({ cls := "ShareTickets$Machines", name := "isFull", desc := "()Z" } : MethodName) ∈ a_GT := a_inT (a_t_3 (List.mem_of_getElem? (i := 189) (by decide +kernel))) rfl
theorem k_670 : Cond.instanceMethod ({ cls := "ShareTickets$Machines", name := "isFull", desc := "()Z" } : MethodName) ∈ a_GT := a_inT (a_t_3 (List.mem_of_getElem? (i := 190) (by decide +kernel))) rfl
theorem k_671 : Cond.selects "ShareTickets$Machines" ({ cls := "ShareTickets$Machines", name := "isFull", desc := "()Z" } : MethodName) ({ cls := "ShareTickets$Machines", name := "isFull", desc := "()Z" } : MethodName) ∈ a_GT := a_inT (a_t_3 (List.mem_of_getElem? (i := 191) (by decide +kernel))) rfl
theorem k_672 : Cond.code ({ cls := "ShareTickets$Machines", name := "isFull", desc := "()Z" } : MethodName) prog_5_method_5_code (1 : Nat) (Option.some ClassFile.FieldType.boolean) ∈ a_GT := a_inT (a_t_3 (List.mem_of_getElem? (i := 192) (by decide +kernel))) rfl
theorem k_673 : Cond.methodLink "ShareTickets$Text" (130 : Nat) ({ cls := "ShareTickets$Machines", name := "add", desc := "(I)V" } : MethodName) ∈ a_GT := a_inT (a_t_3 (List.mem_of_getElem? (i := 193) (by decide +kernel))) rfl
theorem k_674 : Cond.instanceMethod ({ cls := "ShareTickets$Machines", name := "add", desc := "(I)V" } : MethodName) ∈ a_GT := a_inT (a_t_3 (List.mem_of_getElem? (i := 194) (by decide +kernel))) rfl
theorem k_675 : Cond.selects "ShareTickets$Machines" ({ cls := "ShareTickets$Machines", name := "add", desc := "(I)V" } : MethodName) ({ cls := "ShareTickets$Machines", name := "add", desc := "(I)V" } : MethodName) ∈ a_GT := a_inT (a_t_3 (List.mem_of_getElem? (i := 195) (by decide +kernel))) rfl
theorem k_676 : Cond.code ({ cls := "ShareTickets$Machines", name := "add", desc := "(I)V" } : MethodName) prog_5_method_7_code (2 : Nat) (Option.none : Option ClassFile.FieldType) ∈ a_GT := a_inT (a_t_3 (List.mem_of_getElem? (i := 196) (by decide +kernel))) rfl
theorem k_677 : Cond.methodLink "ShareTickets$Machines" (32 : Nat) ({ cls := "ShareTickets$Machines", name := "isFull", desc := "()Z" } : MethodName) ∈ a_GT := a_inT (a_t_3 (List.mem_of_getElem? (i := 197) (by decide +kernel))) rfl
theorem s_678 : Cond.stringRef "ShareTickets$Text" (71 : Nat) "job" ∈ tables_1 := a_t_3 (List.mem_of_getElem? (i := 198) (by decide +kernel))
theorem k_679 : Cond.methodLink "ShareTickets$Text" (73 : Nat) ({ cls := "ShareTickets$Text", name := "readJob", desc := "(LShareTickets$Place;I)V" } : MethodName) ∈ a_GT := a_inT (a_t_3 (List.mem_of_getElem? (i := 199) (by decide +kernel))) rfl
theorem k_681 : Cond.instanceMethod ({ cls := "ShareTickets$Text", name := "readJob", desc := "(LShareTickets$Place;I)V" } : MethodName) ∈ a_GT := a_inT (a_t_3 (List.mem_of_getElem? (i := 201) (by decide +kernel))) rfl
theorem k_682 : Cond.code ({ cls := "ShareTickets$Text", name := "readJob", desc := "(LShareTickets$Place;I)V" } : MethodName) prog_9_method_8_code (5 : Nat) (Option.none : Option ClassFile.FieldType) ∈ a_GT := a_inT (a_t_3 (List.mem_of_getElem? (i := 202) (by decide +kernel))) rfl
theorem k_683 : Cond.methodLink "ShareTickets$Text" (133 : Nat) ({ cls := "ShareTickets$Jobs", name := "isFull", desc := "()Z" } : MethodName) ∈ a_GT := a_inT (a_t_3 (List.mem_of_getElem? (i := 203) (by decide +kernel))) rfl
theorem k_684 : Cond.instanceMethod ({ cls := "ShareTickets$Jobs", name := "isFull", desc := "()Z" } : MethodName) ∈ a_GT := a_inT (a_t_3 (List.mem_of_getElem? (i := 204) (by decide +kernel))) rfl
theorem k_685 : Cond.selects "ShareTickets$Jobs" ({ cls := "ShareTickets$Jobs", name := "isFull", desc := "()Z" } : MethodName) ({ cls := "ShareTickets$Jobs", name := "isFull", desc := "()Z" } : MethodName) ∈ a_GT := a_inT (a_t_3 (List.mem_of_getElem? (i := 205) (by decide +kernel))) rfl
theorem k_686 : Cond.code ({ cls := "ShareTickets$Jobs", name := "isFull", desc := "()Z" } : MethodName) prog_3_method_5_code (1 : Nat) (Option.some ClassFile.FieldType.boolean) ∈ a_GT := a_inT (a_t_3 (List.mem_of_getElem? (i := 206) (by decide +kernel))) rfl
theorem k_687 : Cond.methodLink "ShareTickets$Text" (134 : Nat) ({ cls := "ShareTickets$Tree", name := "isLeaf", desc := "(I)Z" } : MethodName) ∈ a_GT := a_inT (a_t_3 (List.mem_of_getElem? (i := 207) (by decide +kernel))) rfl
theorem k_688 : Cond.methodLink "ShareTickets$Text" (137 : Nat) ({ cls := "ShareTickets$Jobs", name := "add", desc := "(II)V" } : MethodName) ∈ a_GT := a_inT (a_t_3 (List.mem_of_getElem? (i := 208) (by decide +kernel))) rfl
theorem k_689 : Cond.instanceMethod ({ cls := "ShareTickets$Jobs", name := "add", desc := "(II)V" } : MethodName) ∈ a_GT := a_inT (a_t_3 (List.mem_of_getElem? (i := 209) (by decide +kernel))) rfl
theorem k_690 : Cond.selects "ShareTickets$Jobs" ({ cls := "ShareTickets$Jobs", name := "add", desc := "(II)V" } : MethodName) ({ cls := "ShareTickets$Jobs", name := "add", desc := "(II)V" } : MethodName) ∈ a_GT := a_inT (a_t_3 (List.mem_of_getElem? (i := 210) (by decide +kernel))) rfl
theorem k_691 : Cond.code ({ cls := "ShareTickets$Jobs", name := "add", desc := "(II)V" } : MethodName) prog_3_method_10_code (3 : Nat) (Option.none : Option ClassFile.FieldType) ∈ a_GT := a_inT (a_t_3 (List.mem_of_getElem? (i := 211) (by decide +kernel))) rfl
theorem k_692 : Cond.methodLink "ShareTickets$Jobs" (47 : Nat) ({ cls := "ShareTickets$Jobs", name := "isFull", desc := "()Z" } : MethodName) ∈ a_GT := a_inT (a_t_3 (List.mem_of_getElem? (i := 212) (by decide +kernel))) rfl
theorem s_693 : Cond.stringRef "ShareTickets$Text" (76 : Nat) "half" ∈ tables_1 := a_t_3 (List.mem_of_getElem? (i := 213) (by decide +kernel))
theorem k_694 : Cond.methodLink "ShareTickets$Text" (78 : Nat) ({ cls := "ShareTickets$Text", name := "readSetting", desc := "(LShareTickets$Place;I)V" } : MethodName) ∈ a_GT := a_inT (a_t_3 (List.mem_of_getElem? (i := 214) (by decide +kernel))) rfl
theorem k_696 : Cond.instanceMethod ({ cls := "ShareTickets$Text", name := "readSetting", desc := "(LShareTickets$Place;I)V" } : MethodName) ∈ a_GT := a_inT (a_t_3 (List.mem_of_getElem? (i := 216) (by decide +kernel))) rfl
theorem k_697 : Cond.code ({ cls := "ShareTickets$Text", name := "readSetting", desc := "(LShareTickets$Place;I)V" } : MethodName) prog_9_method_9_code (4 : Nat) (Option.none : Option ClassFile.FieldType) ∈ a_GT := a_inT (a_t_3 (List.mem_of_getElem? (i := 217) (by decide +kernel))) rfl
theorem g_698 : Cond.fieldLinkNest "ShareTickets$Text" (138 : Nat) "ShareTickets" "LEAST_SETTING" "[I" "ShareTickets" ∈ a_GN := a_inN (a_t_3 (List.mem_of_getElem? (i := 218) (by decide +kernel))) rfl
theorem g_700 : Cond.fieldLinkNest "ShareTickets$Text" (142 : Nat) "ShareTickets" "GREATEST_SETTING" "[I" "ShareTickets" ∈ a_GN := a_inN (a_t_3 (List.mem_of_getElem? (i := 220) (by decide +kernel))) rfl
theorem s_702 : Cond.stringRef "ShareTickets$Text" (81 : Nat) "margin" ∈ tables_1 := a_t_3 (List.mem_of_getElem? (i := 222) (by decide +kernel))
theorem s_703 : Cond.stringRef "ShareTickets$Text" (83 : Nat) "check" ∈ tables_1 := a_t_3 (List.mem_of_getElem? (i := 223) (by decide +kernel))
theorem k_704 : Cond.methodLink "ShareTickets$Text" (89 : Nat) ({ cls := "ShareTickets$Text", name := "readSemicolon", desc := "()V" } : MethodName) ∈ a_GT := a_inT (a_t_3 (List.mem_of_getElem? (i := 224) (by decide +kernel))) rfl
theorem k_706 : Cond.instanceMethod ({ cls := "ShareTickets$Text", name := "readSemicolon", desc := "()V" } : MethodName) ∈ a_GT := a_inT (a_t_3 (List.mem_of_getElem? (i := 226) (by decide +kernel))) rfl
theorem k_707 : Cond.code ({ cls := "ShareTickets$Text", name := "readSemicolon", desc := "()V" } : MethodName) prog_9_method_11_code (1 : Nat) (Option.none : Option ClassFile.FieldType) ∈ a_GT := a_inT (a_t_3 (List.mem_of_getElem? (i := 227) (by decide +kernel))) rfl
theorem k_708 : Cond.methodLink "ShareTickets" (67 : Nat) ({ cls := "ShareTickets$History", name := "keep", desc := "(LShareTickets$Place;)V" } : MethodName) ∈ a_GT := a_inT (a_t_3 (List.mem_of_getElem? (i := 228) (by decide +kernel))) rfl
theorem k_709 : Cond.instanceMethod ({ cls := "ShareTickets$History", name := "keep", desc := "(LShareTickets$Place;)V" } : MethodName) ∈ a_GT := a_inT (a_t_3 (List.mem_of_getElem? (i := 229) (by decide +kernel))) rfl
theorem k_710 : Cond.selects "ShareTickets$History" ({ cls := "ShareTickets$History", name := "keep", desc := "(LShareTickets$Place;)V" } : MethodName) ({ cls := "ShareTickets$History", name := "keep", desc := "(LShareTickets$Place;)V" } : MethodName) ∈ a_GT := a_inT (a_t_3 (List.mem_of_getElem? (i := 230) (by decide +kernel))) rfl
theorem k_711 : Cond.code ({ cls := "ShareTickets$History", name := "keep", desc := "(LShareTickets$Place;)V" } : MethodName) prog_2_method_2_code (2 : Nat) (Option.none : Option ClassFile.FieldType) ∈ a_GT := a_inT (a_t_3 (List.mem_of_getElem? (i := 231) (by decide +kernel))) rfl
theorem k_712 : Cond.methodLink "ShareTickets$History" (22 : Nat) ({ cls := "ShareTickets$Place", name := "copyFrom", desc := "(LShareTickets$Place;)V" } : MethodName) ∈ a_GT := a_inT (a_t_3 (List.mem_of_getElem? (i := 232) (by decide +kernel))) rfl
theorem k_713 : Cond.instanceMethod ({ cls := "ShareTickets$Place", name := "copyFrom", desc := "(LShareTickets$Place;)V" } : MethodName) ∈ a_GT := a_inT (a_t_3 (List.mem_of_getElem? (i := 233) (by decide +kernel))) rfl
theorem k_714 : Cond.selects "ShareTickets$Place" ({ cls := "ShareTickets$Place", name := "copyFrom", desc := "(LShareTickets$Place;)V" } : MethodName) ({ cls := "ShareTickets$Place", name := "copyFrom", desc := "(LShareTickets$Place;)V" } : MethodName) ∈ a_GT := a_inT (a_t_3 (List.mem_of_getElem? (i := 234) (by decide +kernel))) rfl
theorem k_715 : Cond.code ({ cls := "ShareTickets$Place", name := "copyFrom", desc := "(LShareTickets$Place;)V" } : MethodName) prog_7_method_3_code (2 : Nat) (Option.none : Option ClassFile.FieldType) ∈ a_GT := a_inT (a_t_3 (List.mem_of_getElem? (i := 235) (by decide +kernel))) rfl
theorem k_716 : Cond.methodLink "ShareTickets$Place" (76 : Nat) ({ cls := "ShareTickets$Tree", name := "copyFrom", desc := "(LShareTickets$Tree;)V" } : MethodName) ∈ a_GT := a_inT (a_t_3 (List.mem_of_getElem? (i := 236) (by decide +kernel))) rfl
theorem k_717 : Cond.instanceMethod ({ cls := "ShareTickets$Tree", name := "copyFrom", desc := "(LShareTickets$Tree;)V" } : MethodName) ∈ a_GT := a_inT (a_t_3 (List.mem_of_getElem? (i := 237) (by decide +kernel))) rfl
theorem k_718 : Cond.selects "ShareTickets$Tree" ({ cls := "ShareTickets$Tree", name := "copyFrom", desc := "(LShareTickets$Tree;)V" } : MethodName) ({ cls := "ShareTickets$Tree", name := "copyFrom", desc := "(LShareTickets$Tree;)V" } : MethodName) ∈ a_GT := a_inT (a_t_3 (List.mem_of_getElem? (i := 238) (by decide +kernel))) rfl
theorem k_719 : Cond.code ({ cls := "ShareTickets$Tree", name := "copyFrom", desc := "(LShareTickets$Tree;)V" } : MethodName) prog_10_method_3_code (2 : Nat) (Option.none : Option ClassFile.FieldType) ∈ a_GT := a_inT (a_t_3 (List.mem_of_getElem? (i := 239) (by decide +kernel))) rfl
theorem k_720 : Cond.methodLink "ShareTickets$Tree" (32 : Nat) ({ cls := "java/lang/System", name := "arraycopy", desc := "(Ljava/lang/Object;ILjava/lang/Object;II)V" } : MethodName) ∈ a_GT := a_inT (a_t_4 (List.mem_of_getElem? (i := 0) (by decide +kernel))) rfl
theorem k_721 : Cond.methodLink "ShareTickets$Place" (80 : Nat) ({ cls := "ShareTickets$Loans", name := "copyFrom", desc := "(LShareTickets$Loans;)V" } : MethodName) ∈ a_GT := a_inT (a_t_4 (List.mem_of_getElem? (i := 1) (by decide +kernel))) rfl
theorem k_722 : Cond.instanceMethod ({ cls := "ShareTickets$Loans", name := "copyFrom", desc := "(LShareTickets$Loans;)V" } : MethodName) ∈ a_GT := a_inT (a_t_4 (List.mem_of_getElem? (i := 2) (by decide +kernel))) rfl
theorem k_723 : Cond.selects "ShareTickets$Loans" ({ cls := "ShareTickets$Loans", name := "copyFrom", desc := "(LShareTickets$Loans;)V" } : MethodName) ({ cls := "ShareTickets$Loans", name := "copyFrom", desc := "(LShareTickets$Loans;)V" } : MethodName) ∈ a_GT := a_inT (a_t_4 (List.mem_of_getElem? (i := 3) (by decide +kernel))) rfl
theorem k_724 : Cond.code ({ cls := "ShareTickets$Loans", name := "copyFrom", desc := "(LShareTickets$Loans;)V" } : MethodName) prog_4_method_3_code (2 : Nat) (Option.none : Option ClassFile.FieldType) ∈ a_GT := a_inT (a_t_4 (List.mem_of_getElem? (i := 4) (by decide +kernel))) rfl
theorem k_725 : Cond.methodLink "ShareTickets$Loans" (31 : Nat) ({ cls := "java/lang/System", name := "arraycopy", desc := "(Ljava/lang/Object;ILjava/lang/Object;II)V" } : MethodName) ∈ a_GT := a_inT (a_t_4 (List.mem_of_getElem? (i := 5) (by decide +kernel))) rfl
theorem k_726 : Cond.methodLink "ShareTickets$Place" (83 : Nat) ({ cls := "ShareTickets$Machines", name := "copyFrom", desc := "(LShareTickets$Machines;)V" } : MethodName) ∈ a_GT := a_inT (a_t_4 (List.mem_of_getElem? (i := 6) (by decide +kernel))) rfl
theorem k_727 : Cond.instanceMethod ({ cls := "ShareTickets$Machines", name := "copyFrom", desc := "(LShareTickets$Machines;)V" } : MethodName) ∈ a_GT := a_inT (a_t_4 (List.mem_of_getElem? (i := 7) (by decide +kernel))) rfl
theorem k_728 : Cond.selects "ShareTickets$Machines" ({ cls := "ShareTickets$Machines", name := "copyFrom", desc := "(LShareTickets$Machines;)V" } : MethodName) ({ cls := "ShareTickets$Machines", name := "copyFrom", desc := "(LShareTickets$Machines;)V" } : MethodName) ∈ a_GT := a_inT (a_t_4 (List.mem_of_getElem? (i := 8) (by decide +kernel))) rfl
theorem k_729 : Cond.code ({ cls := "ShareTickets$Machines", name := "copyFrom", desc := "(LShareTickets$Machines;)V" } : MethodName) prog_5_method_3_code (2 : Nat) (Option.none : Option ClassFile.FieldType) ∈ a_GT := a_inT (a_t_4 (List.mem_of_getElem? (i := 9) (by decide +kernel))) rfl
theorem k_730 : Cond.methodLink "ShareTickets$Machines" (22 : Nat) ({ cls := "java/lang/System", name := "arraycopy", desc := "(Ljava/lang/Object;ILjava/lang/Object;II)V" } : MethodName) ∈ a_GT := a_inT (a_t_4 (List.mem_of_getElem? (i := 10) (by decide +kernel))) rfl
theorem k_731 : Cond.methodLink "ShareTickets$Place" (86 : Nat) ({ cls := "ShareTickets$Jobs", name := "copyFrom", desc := "(LShareTickets$Jobs;)V" } : MethodName) ∈ a_GT := a_inT (a_t_4 (List.mem_of_getElem? (i := 11) (by decide +kernel))) rfl
theorem k_732 : Cond.instanceMethod ({ cls := "ShareTickets$Jobs", name := "copyFrom", desc := "(LShareTickets$Jobs;)V" } : MethodName) ∈ a_GT := a_inT (a_t_4 (List.mem_of_getElem? (i := 12) (by decide +kernel))) rfl
theorem k_733 : Cond.selects "ShareTickets$Jobs" ({ cls := "ShareTickets$Jobs", name := "copyFrom", desc := "(LShareTickets$Jobs;)V" } : MethodName) ({ cls := "ShareTickets$Jobs", name := "copyFrom", desc := "(LShareTickets$Jobs;)V" } : MethodName) ∈ a_GT := a_inT (a_t_4 (List.mem_of_getElem? (i := 13) (by decide +kernel))) rfl
theorem k_734 : Cond.code ({ cls := "ShareTickets$Jobs", name := "copyFrom", desc := "(LShareTickets$Jobs;)V" } : MethodName) prog_3_method_3_code (2 : Nat) (Option.none : Option ClassFile.FieldType) ∈ a_GT := a_inT (a_t_4 (List.mem_of_getElem? (i := 14) (by decide +kernel))) rfl
theorem k_735 : Cond.methodLink "ShareTickets$Jobs" (37 : Nat) ({ cls := "java/lang/System", name := "arraycopy", desc := "(Ljava/lang/Object;ILjava/lang/Object;II)V" } : MethodName) ∈ a_GT := a_inT (a_t_4 (List.mem_of_getElem? (i := 15) (by decide +kernel))) rfl
theorem k_736 : Cond.methodLink "ShareTickets$History" (29 : Nat) ({ cls := "java/lang/Math", name := "min", desc := "(II)I" } : MethodName) ∈ a_GT := a_inT (a_t_4 (List.mem_of_getElem? (i := 16) (by decide +kernel))) rfl
theorem k_737 : Cond.methodLink "ShareTickets" (71 : Nat) ({ cls := "ShareTickets$Place", name := "copyFrom", desc := "(LShareTickets$Place;)V" } : MethodName) ∈ a_GT := a_inT (a_t_4 (List.mem_of_getElem? (i := 17) (by decide +kernel))) rfl
theorem k_738 : Cond.methodLink "ShareTickets" (74 : Nat) ({ cls := "ShareTickets$Place", name := "settle", desc := "()V" } : MethodName) ∈ a_GT := a_inT (a_t_4 (List.mem_of_getElem? (i := 18) (by decide +kernel))) rfl
theorem k_739 : Cond.instanceMethod ({ cls := "ShareTickets$Place", name := "settle", desc := "()V" } : MethodName) ∈ a_GT := a_inT (a_t_4 (List.mem_of_getElem? (i := 19) (by decide +kernel))) rfl
theorem k_740 : Cond.selects "ShareTickets$Place" ({ cls := "ShareTickets$Place", name := "settle", desc := "()V" } : MethodName) ({ cls := "ShareTickets$Place", name := "settle", desc := "()V" } : MethodName) ∈ a_GT := a_inT (a_t_4 (List.mem_of_getElem? (i := 20) (by decide +kernel))) rfl
theorem k_741 : Cond.code ({ cls := "ShareTickets$Place", name := "settle", desc := "()V" } : MethodName) prog_7_method_4_code (1 : Nat) (Option.none : Option ClassFile.FieldType) ∈ a_GT := a_inT (a_t_4 (List.mem_of_getElem? (i := 21) (by decide +kernel))) rfl
theorem k_742 : Cond.methodLink "ShareTickets$Place" (89 : Nat) ({ cls := "ShareTickets$Scale", name := "survey", desc := "(LShareTickets$Place;)V" } : MethodName) ∈ a_GT := a_inT (a_t_4 (List.mem_of_getElem? (i := 22) (by decide +kernel))) rfl
theorem k_743 : Cond.instanceMethod ({ cls := "ShareTickets$Scale", name := "survey", desc := "(LShareTickets$Place;)V" } : MethodName) ∈ a_GT := a_inT (a_t_4 (List.mem_of_getElem? (i := 23) (by decide +kernel))) rfl
theorem k_744 : Cond.selects "ShareTickets$Scale" ({ cls := "ShareTickets$Scale", name := "survey", desc := "(LShareTickets$Place;)V" } : MethodName) ({ cls := "ShareTickets$Scale", name := "survey", desc := "(LShareTickets$Place;)V" } : MethodName) ∈ a_GT := a_inT (a_t_4 (List.mem_of_getElem? (i := 24) (by decide +kernel))) rfl
theorem k_745 : Cond.code ({ cls := "ShareTickets$Scale", name := "survey", desc := "(LShareTickets$Place;)V" } : MethodName) prog_8_method_2_code (3 : Nat) (Option.none : Option ClassFile.FieldType) ∈ a_GT := a_inT (a_t_4 (List.mem_of_getElem? (i := 25) (by decide +kernel))) rfl
theorem k_746 : Cond.methodLink "ShareTickets$Scale" (31 : Nat) ({ cls := "ShareTickets$Scale", name := "countJobs", desc := "(LShareTickets$Place;)V" } : MethodName) ∈ a_GT := a_inT (a_t_4 (List.mem_of_getElem? (i := 26) (by decide +kernel))) rfl
theorem k_748 : Cond.instanceMethod ({ cls := "ShareTickets$Scale", name := "countJobs", desc := "(LShareTickets$Place;)V" } : MethodName) ∈ a_GT := a_inT (a_t_4 (List.mem_of_getElem? (i := 28) (by decide +kernel))) rfl
theorem k_749 : Cond.code ({ cls := "ShareTickets$Scale", name := "countJobs", desc := "(LShareTickets$Place;)V" } : MethodName) prog_8_method_3_code (6 : Nat) (Option.none : Option ClassFile.FieldType) ∈ a_GT := a_inT (a_t_4 (List.mem_of_getElem? (i := 29) (by decide +kernel))) rfl
theorem k_750 : Cond.methodLink "ShareTickets$Scale" (67 : Nat) ({ cls := "ShareTickets$Tree", name := "has", desc := "(I)Z" } : MethodName) ∈ a_GT := a_inT (a_t_4 (List.mem_of_getElem? (i := 30) (by decide +kernel))) rfl
theorem k_751 : Cond.methodLink "ShareTickets$Scale" (78 : Nat) ({ cls := "ShareTickets$Machines", name := "has", desc := "(I)Z" } : MethodName) ∈ a_GT := a_inT (a_t_4 (List.mem_of_getElem? (i := 31) (by decide +kernel))) rfl
theorem k_752 : Cond.methodLink "ShareTickets$Scale" (35 : Nat) ({ cls := "ShareTickets$Scale", name := "dealTickets", desc := "(LShareTickets$Place;)V" } : MethodName) ∈ a_GT := a_inT (a_t_4 (List.mem_of_getElem? (i := 32) (by decide +kernel))) rfl
theorem k_754 : Cond.instanceMethod ({ cls := "ShareTickets$Scale", name := "dealTickets", desc := "(LShareTickets$Place;)V" } : MethodName) ∈ a_GT := a_inT (a_t_4 (List.mem_of_getElem? (i := 34) (by decide +kernel))) rfl
theorem k_755 : Cond.code ({ cls := "ShareTickets$Scale", name := "dealTickets", desc := "(LShareTickets$Place;)V" } : MethodName) prog_8_method_4_code (8 : Nat) (Option.none : Option ClassFile.FieldType) ∈ a_GT := a_inT (a_t_4 (List.mem_of_getElem? (i := 35) (by decide +kernel))) rfl
theorem k_756 : Cond.methodLink "ShareTickets$Scale" (88 : Nat) ({ cls := "java/lang/System", name := "arraycopy", desc := "(Ljava/lang/Object;ILjava/lang/Object;II)V" } : MethodName) ∈ a_GT := a_inT (a_t_4 (List.mem_of_getElem? (i := 36) (by decide +kernel))) rfl
theorem k_757 : Cond.methodLink "ShareTickets$Scale" (106 : Nat) ({ cls := "ShareTickets$Loans", name := "isLent", desc := "(II)Z" } : MethodName) ∈ a_GT := a_inT (a_t_4 (List.mem_of_getElem? (i := 37) (by decide +kernel))) rfl
theorem k_758 : Cond.instanceMethod ({ cls := "ShareTickets$Loans", name := "isLent", desc := "(II)Z" } : MethodName) ∈ a_GT := a_inT (a_t_4 (List.mem_of_getElem? (i := 38) (by decide +kernel))) rfl
theorem k_759 : Cond.selects "ShareTickets$Loans" ({ cls := "ShareTickets$Loans", name := "isLent", desc := "(II)Z" } : MethodName) ({ cls := "ShareTickets$Loans", name := "isLent", desc := "(II)Z" } : MethodName) ∈ a_GT := a_inT (a_t_4 (List.mem_of_getElem? (i := 39) (by decide +kernel))) rfl
theorem k_760 : Cond.code ({ cls := "ShareTickets$Loans", name := "isLent", desc := "(II)Z" } : MethodName) prog_4_method_10_code (3 : Nat) (Option.some ClassFile.FieldType.boolean) ∈ a_GT := a_inT (a_t_4 (List.mem_of_getElem? (i := 40) (by decide +kernel))) rfl
theorem k_761 : Cond.methodLink "ShareTickets$Loans" (45 : Nat) ({ cls := "ShareTickets$Loans", name := "dueAt", desc := "(I)I" } : MethodName) ∈ a_GT := a_inT (a_t_4 (List.mem_of_getElem? (i := 41) (by decide +kernel))) rfl
theorem k_763 : Cond.instanceMethod ({ cls := "ShareTickets$Loans", name := "dueAt", desc := "(I)I" } : MethodName) ∈ a_GT := a_inT (a_t_4 (List.mem_of_getElem? (i := 43) (by decide +kernel))) rfl
theorem k_764 : Cond.code ({ cls := "ShareTickets$Loans", name := "dueAt", desc := "(I)I" } : MethodName) prog_4_method_8_code (2 : Nat) (Option.some ClassFile.FieldType.int) ∈ a_GT := a_inT (a_t_4 (List.mem_of_getElem? (i := 44) (by decide +kernel))) rfl
theorem k_765 : Cond.methodLink "ShareTickets$Loans" (41 : Nat) ({ cls := "ShareTickets$Loans", name := "has", desc := "(I)Z" } : MethodName) ∈ a_GT := a_inT (a_t_4 (List.mem_of_getElem? (i := 45) (by decide +kernel))) rfl
theorem k_766 : Cond.instanceMethod ({ cls := "ShareTickets$Loans", name := "has", desc := "(I)Z" } : MethodName) ∈ a_GT := a_inT (a_t_4 (List.mem_of_getElem? (i := 46) (by decide +kernel))) rfl
theorem k_767 : Cond.selects "ShareTickets$Loans" ({ cls := "ShareTickets$Loans", name := "has", desc := "(I)Z" } : MethodName) ({ cls := "ShareTickets$Loans", name := "has", desc := "(I)Z" } : MethodName) ∈ a_GT := a_inT (a_t_4 (List.mem_of_getElem? (i := 47) (by decide +kernel))) rfl
theorem k_768 : Cond.code ({ cls := "ShareTickets$Loans", name := "has", desc := "(I)Z" } : MethodName) prog_4_method_4_code (2 : Nat) (Option.some ClassFile.FieldType.boolean) ∈ a_GT := a_inT (a_t_4 (List.mem_of_getElem? (i := 48) (by decide +kernel))) rfl
theorem k_769 : Cond.methodLink "ShareTickets$Scale" (111 : Nat) ({ cls := "java/lang/Math", name := "max", desc := "(II)I" } : MethodName) ∈ a_GT := a_inT (a_t_4 (List.mem_of_getElem? (i := 49) (by decide +kernel))) rfl
theorem k_770 : Cond.static ({ cls := "java/lang/Math", name := "max", desc := "(II)I" } : MethodName) ∈ a_GT := a_inT (a_t_4 (List.mem_of_getElem? (i := 50) (by decide +kernel))) rfl
theorem k_771 : Cond.code ({ cls := "java/lang/Math", name := "max", desc := "(II)I" } : MethodName) prog_20_method_65_code (2 : Nat) (Option.some ClassFile.FieldType.int) ∈ a_GT := a_inT (a_t_4 (List.mem_of_getElem? (i := 51) (by decide +kernel))) rfl
theorem k_772 : Cond.methodLink "ShareTickets$Scale" (50 : Nat) ({ cls := "ShareTickets$Scale", name := "weigh", desc := "(LShareTickets$Tree;I)V" } : MethodName) ∈ a_GT := a_inT (a_t_4 (List.mem_of_getElem? (i := 52) (by decide +kernel))) rfl
theorem k_774 : Cond.instanceMethod ({ cls := "ShareTickets$Scale", name := "weigh", desc := "(LShareTickets$Tree;I)V" } : MethodName) ∈ a_GT := a_inT (a_t_4 (List.mem_of_getElem? (i := 54) (by decide +kernel))) rfl
theorem k_775 : Cond.code ({ cls := "ShareTickets$Scale", name := "weigh", desc := "(LShareTickets$Tree;I)V" } : MethodName) prog_8_method_5_code (3 : Nat) (Option.none : Option ClassFile.FieldType) ∈ a_GT := a_inT (a_t_4 (List.mem_of_getElem? (i := 55) (by decide +kernel))) rfl
theorem g_776 : Cond.methodLinkNest "ShareTickets$Scale" (120 : Nat) ({ cls := "ShareTickets", name := "worthOf", desc := "(III)J" } : MethodName) "ShareTickets" ∈ a_GN := a_inN (a_t_4 (List.mem_of_getElem? (i := 56) (by decide +kernel))) rfl
theorem k_777 : Cond.static ({ cls := "ShareTickets", name := "worthOf", desc := "(III)J" } : MethodName) ∈ a_GT := a_inT (a_t_4 (List.mem_of_getElem? (i := 57) (by decide +kernel))) rfl
theorem k_778 : Cond.code ({ cls := "ShareTickets", name := "worthOf", desc := "(III)J" } : MethodName) prog_1_method_36_code (5 : Nat) (Option.some ClassFile.FieldType.long) ∈ a_GT := a_inT (a_t_4 (List.mem_of_getElem? (i := 58) (by decide +kernel))) rfl
theorem k_779 : Cond.constantLong "ShareTickets" (379 : Nat) (1000 : Int64) ∈ a_GT := a_inT (a_t_4 (List.mem_of_getElem? (i := 59) (by decide +kernel))) rfl
theorem k_780 : Cond.methodLink "ShareTickets$Place" (93 : Nat) ({ cls := "ShareTickets$Place", name := "fillSlots", desc := "()V" } : MethodName) ∈ a_GT := a_inT (a_t_4 (List.mem_of_getElem? (i := 60) (by decide +kernel))) rfl
theorem k_782 : Cond.instanceMethod ({ cls := "ShareTickets$Place", name := "fillSlots", desc := "()V" } : MethodName) ∈ a_GT := a_inT (a_t_4 (List.mem_of_getElem? (i := 62) (by decide +kernel))) rfl
theorem k_783 : Cond.code ({ cls := "ShareTickets$Place", name := "fillSlots", desc := "()V" } : MethodName) prog_7_method_5_code (4 : Nat) (Option.none : Option ClassFile.FieldType) ∈ a_GT := a_inT (a_t_4 (List.mem_of_getElem? (i := 63) (by decide +kernel))) rfl
theorem k_784 : Cond.methodLink "ShareTickets$Place" (96 : Nat) ({ cls := "ShareTickets$Place", name := "freeMachine", desc := "()I" } : MethodName) ∈ a_GT := a_inT (a_t_4 (List.mem_of_getElem? (i := 64) (by decide +kernel))) rfl
theorem k_786 : Cond.instanceMethod ({ cls := "ShareTickets$Place", name := "freeMachine", desc := "()I" } : MethodName) ∈ a_GT := a_inT (a_t_4 (List.mem_of_getElem? (i := 66) (by decide +kernel))) rfl
theorem k_787 : Cond.code ({ cls := "ShareTickets$Place", name := "freeMachine", desc := "()I" } : MethodName) prog_7_method_6_code (2 : Nat) (Option.some ClassFile.FieldType.int) ∈ a_GT := a_inT (a_t_4 (List.mem_of_getElem? (i := 67) (by decide +kernel))) rfl
theorem k_788 : Cond.methodLink "ShareTickets$Place" (110 : Nat) ({ cls := "ShareTickets$Machines", name := "isUp", desc := "(I)Z" } : MethodName) ∈ a_GT := a_inT (a_t_4 (List.mem_of_getElem? (i := 68) (by decide +kernel))) rfl
theorem k_789 : Cond.methodLink "ShareTickets$Place" (100 : Nat) ({ cls := "ShareTickets$Place", name := "bestWaiting", desc := "()I" } : MethodName) ∈ a_GT := a_inT (a_t_4 (List.mem_of_getElem? (i := 69) (by decide +kernel))) rfl
theorem k_790 : Cond.instanceMethod ({ cls := "ShareTickets$Place", name := "bestWaiting", desc := "()I" } : MethodName) ∈ a_GT := a_inT (a_t_4 (List.mem_of_getElem? (i := 70) (by decide +kernel))) rfl
theorem k_791 : Cond.selects "ShareTickets$Place" ({ cls := "ShareTickets$Place", name := "bestWaiting", desc := "()I" } : MethodName) ({ cls := "ShareTickets$Place", name := "bestWaiting", desc := "()I" } : MethodName) ∈ a_GT := a_inT (a_t_4 (List.mem_of_getElem? (i := 71) (by decide +kernel))) rfl
theorem k_792 : Cond.code ({ cls := "ShareTickets$Place", name := "bestWaiting", desc := "()I" } : MethodName) prog_7_method_8_code (7 : Nat) (Option.some ClassFile.FieldType.int) ∈ a_GT := a_inT (a_t_4 (List.mem_of_getElem? (i := 72) (by decide +kernel))) rfl
theorem k_793 : Cond.methodLink "ShareTickets$Place" (127 : Nat) ({ cls := "ShareTickets$Scale", name := "nextWorthOf", desc := "(I)J" } : MethodName) ∈ a_GT := a_inT (a_t_4 (List.mem_of_getElem? (i := 73) (by decide +kernel))) rfl
theorem k_794 : Cond.instanceMethod ({ cls := "ShareTickets$Scale", name := "nextWorthOf", desc := "(I)J" } : MethodName) ∈ a_GT := a_inT (a_t_4 (List.mem_of_getElem? (i := 74) (by decide +kernel))) rfl
theorem k_795 : Cond.selects "ShareTickets$Scale" ({ cls := "ShareTickets$Scale", name := "nextWorthOf", desc := "(I)J" } : MethodName) ({ cls := "ShareTickets$Scale", name := "nextWorthOf", desc := "(I)J" } : MethodName) ∈ a_GT := a_inT (a_t_4 (List.mem_of_getElem? (i := 75) (by decide +kernel))) rfl
theorem k_796 : Cond.code ({ cls := "ShareTickets$Scale", name := "nextWorthOf", desc := "(I)J" } : MethodName) prog_8_method_7_code (2 : Nat) (Option.some ClassFile.FieldType.long) ∈ a_GT := a_inT (a_t_4 (List.mem_of_getElem? (i := 76) (by decide +kernel))) rfl
theorem k_797 : Cond.methodLink "ShareTickets$Place" (103 : Nat) ({ cls := "ShareTickets$Place", name := "startJob", desc := "(II)V" } : MethodName) ∈ a_GT := a_inT (a_t_4 (List.mem_of_getElem? (i := 77) (by decide +kernel))) rfl
theorem k_799 : Cond.instanceMethod ({ cls := "ShareTickets$Place", name := "startJob", desc := "(II)V" } : MethodName) ∈ a_GT := a_inT (a_t_4 (List.mem_of_getElem? (i := 79) (by decide +kernel))) rfl
theorem k_800 : Cond.code ({ cls := "ShareTickets$Place", name := "startJob", desc := "(II)V" } : MethodName) prog_7_method_10_code (3 : Nat) (Option.none : Option ClassFile.FieldType) ∈ a_GT := a_inT (a_t_4 (List.mem_of_getElem? (i := 80) (by decide +kernel))) rfl
theorem k_801 : Cond.methodLink "ShareTickets$Place" (138 : Nat) ({ cls := "ShareTickets$Jobs", name := "has", desc := "(I)Z" } : MethodName) ∈ a_GT := a_inT (a_t_4 (List.mem_of_getElem? (i := 81) (by decide +kernel))) rfl
theorem k_802 : Cond.methodLink "ShareTickets$Place" (141 : Nat) ({ cls := "ShareTickets$Jobs", name := "start", desc := "(II)V" } : MethodName) ∈ a_GT := a_inT (a_t_4 (List.mem_of_getElem? (i := 82) (by decide +kernel))) rfl
theorem k_803 : Cond.instanceMethod ({ cls := "ShareTickets$Jobs", name := "start", desc := "(II)V" } : MethodName) ∈ a_GT := a_inT (a_t_4 (List.mem_of_getElem? (i := 83) (by decide +kernel))) rfl
theorem k_804 : Cond.selects "ShareTickets$Jobs" ({ cls := "ShareTickets$Jobs", name := "start", desc := "(II)V" } : MethodName) ({ cls := "ShareTickets$Jobs", name := "start", desc := "(II)V" } : MethodName) ∈ a_GT := a_inT (a_t_4 (List.mem_of_getElem? (i := 84) (by decide +kernel))) rfl
theorem k_805 : Cond.code ({ cls := "ShareTickets$Jobs", name := "start", desc := "(II)V" } : MethodName) prog_3_method_11_code (3 : Nat) (Option.none : Option ClassFile.FieldType) ∈ a_GT := a_inT (a_t_4 (List.mem_of_getElem? (i := 85) (by decide +kernel))) rfl
theorem k_806 : Cond.methodLink "ShareTickets$Place" (144 : Nat) ({ cls := "ShareTickets$Scale", name := "shift", desc := "(LShareTickets$Place;III)V" } : MethodName) ∈ a_GT := a_inT (a_t_4 (List.mem_of_getElem? (i := 86) (by decide +kernel))) rfl
theorem k_807 : Cond.instanceMethod ({ cls := "ShareTickets$Scale", name := "shift", desc := "(LShareTickets$Place;III)V" } : MethodName) ∈ a_GT := a_inT (a_t_4 (List.mem_of_getElem? (i := 87) (by decide +kernel))) rfl
theorem k_808 : Cond.selects "ShareTickets$Scale" ({ cls := "ShareTickets$Scale", name := "shift", desc := "(LShareTickets$Place;III)V" } : MethodName) ({ cls := "ShareTickets$Scale", name := "shift", desc := "(LShareTickets$Place;III)V" } : MethodName) ∈ a_GT := a_inT (a_t_4 (List.mem_of_getElem? (i := 88) (by decide +kernel))) rfl
theorem k_809 : Cond.code ({ cls := "ShareTickets$Scale", name := "shift", desc := "(LShareTickets$Place;III)V" } : MethodName) prog_8_method_6_code (5 : Nat) (Option.none : Option ClassFile.FieldType) ∈ a_GT := a_inT (a_t_4 (List.mem_of_getElem? (i := 89) (by decide +kernel))) rfl
theorem k_810 : Cond.methodLink "ShareTicketsLaw" (118 : Nat) ({ cls := "ShareTicketsLaw", name := "count", desc := "(LShareTickets;I[J)I" } : MethodName) ∈ a_GT := a_inT (a_t_4 (List.mem_of_getElem? (i := 90) (by decide +kernel))) rfl
theorem k_811 : Cond.static ({ cls := "ShareTicketsLaw", name := "count", desc := "(LShareTickets;I[J)I" } : MethodName) ∈ a_GT := a_inT (a_t_4 (List.mem_of_getElem? (i := 91) (by decide +kernel))) rfl
theorem k_812 : Cond.codeWith ({ cls := "ShareTicketsLaw", name := "count", desc := "(LShareTickets;I[J)I" } : MethodName) method_5_code (4 : Nat) (Option.some ClassFile.FieldType.int) [((0 : Nat), (9 : Nat), (12 : Nat), (19 : Nat))] ∈ a_GT := a_inT (a_t_4 (List.mem_of_getElem? (i := 92) (by decide +kernel))) rfl
theorem k_813 : Cond.methodLink "ShareTicketsLaw" (21 : Nat) ({ cls := "ShareTickets", name := "count", desc := "(I)I" } : MethodName) ∈ a_GT := a_inT (a_t_4 (List.mem_of_getElem? (i := 93) (by decide +kernel))) rfl
theorem k_814 : Cond.instanceMethod ({ cls := "ShareTickets", name := "count", desc := "(I)I" } : MethodName) ∈ a_GT := a_inT (a_t_4 (List.mem_of_getElem? (i := 94) (by decide +kernel))) rfl
theorem k_815 : Cond.selects "ShareTickets" ({ cls := "ShareTickets", name := "count", desc := "(I)I" } : MethodName) ({ cls := "ShareTickets", name := "count", desc := "(I)I" } : MethodName) ∈ a_GT := a_inT (a_t_4 (List.mem_of_getElem? (i := 95) (by decide +kernel))) rfl
theorem k_816 : Cond.code ({ cls := "ShareTickets", name := "count", desc := "(I)I" } : MethodName) prog_1_method_5_code (2 : Nat) (Option.some ClassFile.FieldType.int) ∈ a_GT := a_inT (a_t_4 (List.mem_of_getElem? (i := 96) (by decide +kernel))) rfl
theorem k_817 : Cond.methodLink "ShareTickets" (117 : Nat) ({ cls := "ShareTickets$Jobs", name := "inState", desc := "(I)I" } : MethodName) ∈ a_GT := a_inT (a_t_4 (List.mem_of_getElem? (i := 97) (by decide +kernel))) rfl
theorem k_818 : Cond.instanceMethod ({ cls := "ShareTickets$Jobs", name := "inState", desc := "(I)I" } : MethodName) ∈ a_GT := a_inT (a_t_4 (List.mem_of_getElem? (i := 98) (by decide +kernel))) rfl
theorem k_819 : Cond.selects "ShareTickets$Jobs" ({ cls := "ShareTickets$Jobs", name := "inState", desc := "(I)I" } : MethodName) ({ cls := "ShareTickets$Jobs", name := "inState", desc := "(I)I" } : MethodName) ∈ a_GT := a_inT (a_t_4 (List.mem_of_getElem? (i := 99) (by decide +kernel))) rfl
theorem k_820 : Cond.code ({ cls := "ShareTickets$Jobs", name := "inState", desc := "(I)I" } : MethodName) prog_3_method_9_code (4 : Nat) (Option.some ClassFile.FieldType.int) ∈ a_GT := a_inT (a_t_4 (List.mem_of_getElem? (i := 100) (by decide +kernel))) rfl
theorem k_821 : Cond.methodLink "ShareTickets" (121 : Nat) ({ cls := "ShareTickets$Place", name := "freeSlots", desc := "()I" } : MethodName) ∈ a_GT := a_inT (a_t_4 (List.mem_of_getElem? (i := 101) (by decide +kernel))) rfl
theorem k_822 : Cond.instanceMethod ({ cls := "ShareTickets$Place", name := "freeSlots", desc := "()I" } : MethodName) ∈ a_GT := a_inT (a_t_4 (List.mem_of_getElem? (i := 102) (by decide +kernel))) rfl
theorem k_823 : Cond.selects "ShareTickets$Place" ({ cls := "ShareTickets$Place", name := "freeSlots", desc := "()I" } : MethodName) ({ cls := "ShareTickets$Place", name := "freeSlots", desc := "()I" } : MethodName) ∈ a_GT := a_inT (a_t_4 (List.mem_of_getElem? (i := 103) (by decide +kernel))) rfl
theorem k_824 : Cond.code ({ cls := "ShareTickets$Place", name := "freeSlots", desc := "()I" } : MethodName) prog_7_method_7_code (3 : Nat) (Option.some ClassFile.FieldType.int) ∈ a_GT := a_inT (a_t_4 (List.mem_of_getElem? (i := 104) (by decide +kernel))) rfl
theorem s_825 : Cond.stringRef "ShareTickets" (131 : Nat) "no such number of the place" ∈ tables_1 := a_t_4 (List.mem_of_getElem? (i := 105) (by decide +kernel))
theorem k_826 : Cond.methodLink "ShareTicketsLaw" (121 : Nat) ({ cls := "ShareTicketsLaw", name := "user", desc := "(LShareTickets;II[J)I" } : MethodName) ∈ a_GT := a_inT (a_t_4 (List.mem_of_getElem? (i := 106) (by decide +kernel))) rfl
theorem k_827 : Cond.static ({ cls := "ShareTicketsLaw", name := "user", desc := "(LShareTickets;II[J)I" } : MethodName) ∈ a_GT := a_inT (a_t_4 (List.mem_of_getElem? (i := 107) (by decide +kernel))) rfl
theorem k_828 : Cond.codeWith ({ cls := "ShareTicketsLaw", name := "user", desc := "(LShareTickets;II[J)I" } : MethodName) method_6_code (5 : Nat) (Option.some ClassFile.FieldType.int) [((0 : Nat), (10 : Nat), (13 : Nat), (28 : Nat)), ((0 : Nat), (10 : Nat), (17 : Nat), (19 : Nat))] ∈ a_GT := a_inT (a_t_4 (List.mem_of_getElem? (i := 108) (by decide +kernel))) rfl
theorem k_829 : Cond.classLink "ShareTicketsLaw" (28 : Nat) "java/lang/IndexOutOfBoundsException" ∈ a_GT := a_inT (a_t_4 (List.mem_of_getElem? (i := 109) (by decide +kernel))) rfl
theorem k_830 : Cond.methodLink "ShareTicketsLaw" (24 : Nat) ({ cls := "ShareTickets", name := "user", desc := "(II)I" } : MethodName) ∈ a_GT := a_inT (a_t_4 (List.mem_of_getElem? (i := 110) (by decide +kernel))) rfl
theorem k_831 : Cond.instanceMethod ({ cls := "ShareTickets", name := "user", desc := "(II)I" } : MethodName) ∈ a_GT := a_inT (a_t_4 (List.mem_of_getElem? (i := 111) (by decide +kernel))) rfl
theorem k_832 : Cond.selects "ShareTickets" ({ cls := "ShareTickets", name := "user", desc := "(II)I" } : MethodName) ({ cls := "ShareTickets", name := "user", desc := "(II)I" } : MethodName) ∈ a_GT := a_inT (a_t_4 (List.mem_of_getElem? (i := 112) (by decide +kernel))) rfl
theorem k_833 : Cond.code ({ cls := "ShareTickets", name := "user", desc := "(II)I" } : MethodName) prog_1_method_6_code (4 : Nat) (Option.some ClassFile.FieldType.int) ∈ a_GT := a_inT (a_t_4 (List.mem_of_getElem? (i := 113) (by decide +kernel))) rfl
theorem k_834 : Cond.methodLink "ShareTickets" (133 : Nat) ({ cls := "ShareTickets", name := "needUser", desc := "(I)V" } : MethodName) ∈ a_GT := a_inT (a_t_4 (List.mem_of_getElem? (i := 114) (by decide +kernel))) rfl
theorem k_836 : Cond.instanceMethod ({ cls := "ShareTickets", name := "needUser", desc := "(I)V" } : MethodName) ∈ a_GT := a_inT (a_t_4 (List.mem_of_getElem? (i := 116) (by decide +kernel))) rfl
theorem k_837 : Cond.code ({ cls := "ShareTickets", name := "needUser", desc := "(I)V" } : MethodName) prog_1_method_30_code (2 : Nat) (Option.none : Option ClassFile.FieldType) ∈ a_GT := a_inT (a_t_4 (List.mem_of_getElem? (i := 117) (by decide +kernel))) rfl
theorem k_838 : Cond.methodLink "ShareTickets" (361 : Nat) ({ cls := "ShareTickets$Tree", name := "has", desc := "(I)Z" } : MethodName) ∈ a_GT := a_inT (a_t_4 (List.mem_of_getElem? (i := 118) (by decide +kernel))) rfl
theorem k_839 : Cond.classLink "ShareTickets" (214 : Nat) "java/lang/IndexOutOfBoundsException" ∈ a_GT := a_inT (a_t_4 (List.mem_of_getElem? (i := 119) (by decide +kernel))) rfl
theorem k_840 : Cond.instantiable "java/lang/IndexOutOfBoundsException" (6 : Nat) ∈ a_GT := a_inT (a_t_4 (List.mem_of_getElem? (i := 120) (by decide +kernel))) rfl
theorem g_841 : Cond.castable "java/lang/IndexOutOfBoundsException" "java/lang/IndexOutOfBoundsException" ∈ a_GN := a_inN (a_t_4 (List.mem_of_getElem? (i := 121) (by decide +kernel))) rfl
theorem k_842 : Cond.selects "java/lang/IndexOutOfBoundsException" ({ cls := "java/lang/Throwable", name := "fillInStackTrace", desc := "(I)Ljava/lang/Throwable;" } : MethodName) ({ cls := "java/lang/Throwable", name := "fillInStackTrace", desc := "(I)Ljava/lang/Throwable;" } : MethodName) ∈ a_GT := a_inT (a_t_4 (List.mem_of_getElem? (i := 122) (by decide +kernel))) rfl
theorem k_843 : Cond.lays "java/lang/IndexOutOfBoundsException" "java/lang/Throwable" "cause" "Ljava/lang/Throwable;" ∈ a_GT := a_inT (a_t_4 (List.mem_of_getElem? (i := 123) (by decide +kernel))) rfl
theorem k_844 : Cond.lays "java/lang/IndexOutOfBoundsException" "java/lang/Throwable" "stackTrace" "[Ljava/lang/StackTraceElement;" ∈ a_GT := a_inT (a_t_4 (List.mem_of_getElem? (i := 124) (by decide +kernel))) rfl
theorem k_845 : Cond.lays "java/lang/IndexOutOfBoundsException" "java/lang/Throwable" "suppressedExceptions" "Ljava/util/List;" ∈ a_GT := a_inT (a_t_4 (List.mem_of_getElem? (i := 125) (by decide +kernel))) rfl
theorem k_846 : Cond.lays "java/lang/IndexOutOfBoundsException" "java/lang/Throwable" "detailMessage" "Ljava/lang/String;" ∈ a_GT := a_inT (a_t_4 (List.mem_of_getElem? (i := 126) (by decide +kernel))) rfl
theorem k_847 : Cond.lays "java/lang/IndexOutOfBoundsException" "java/lang/Throwable" "backtrace" "Ljava/lang/Object;" ∈ a_GT := a_inT (a_t_4 (List.mem_of_getElem? (i := 127) (by decide +kernel))) rfl
theorem s_848 : Cond.stringRef "ShareTickets" (362 : Nat) "no such user" ∈ tables_1 := a_t_4 (List.mem_of_getElem? (i := 128) (by decide +kernel))
theorem k_849 : Cond.methodLink "ShareTickets" (218 : Nat) ({ cls := "java/lang/IndexOutOfBoundsException", name := "<init>", desc := "(Ljava/lang/String;)V" } : MethodName) ∈ a_GT := a_inT (a_t_4 (List.mem_of_getElem? (i := 129) (by decide +kernel))) rfl
theorem k_850 : Cond.instanceMethod ({ cls := "java/lang/IndexOutOfBoundsException", name := "<init>", desc := "(Ljava/lang/String;)V" } : MethodName) ∈ a_GT := a_inT (a_t_4 (List.mem_of_getElem? (i := 130) (by decide +kernel))) rfl
theorem k_851 : Cond.code ({ cls := "java/lang/IndexOutOfBoundsException", name := "<init>", desc := "(Ljava/lang/String;)V" } : MethodName) prog_19_method_2_code (2 : Nat) (Option.none : Option ClassFile.FieldType) ∈ a_GT := a_inT (a_t_4 (List.mem_of_getElem? (i := 131) (by decide +kernel))) rfl
theorem k_852 : Cond.methodLink "java/lang/IndexOutOfBoundsException" (7 : Nat) ({ cls := "java/lang/RuntimeException", name := "<init>", desc := "(Ljava/lang/String;)V" } : MethodName) ∈ a_GT := a_inT (a_t_4 (List.mem_of_getElem? (i := 132) (by decide +kernel))) rfl
theorem k_853 : Cond.lays "java/lang/IndexOutOfBoundsException" "java/lang/Throwable" "depth" "I" ∈ a_GT := a_inT (a_t_4 (List.mem_of_getElem? (i := 133) (by decide +kernel))) rfl
theorem k_854 : Cond.superclass "java/lang/IndexOutOfBoundsException" "java/lang/RuntimeException" ∈ a_GT := a_inT (a_t_4 (List.mem_of_getElem? (i := 134) (by decide +kernel))) rfl
theorem k_855 : Cond.methodLink "ShareTickets" (140 : Nat) ({ cls := "ShareTickets$Scale", name := "survey", desc := "(LShareTickets$Place;)V" } : MethodName) ∈ a_GT := a_inT (a_t_4 (List.mem_of_getElem? (i := 135) (by decide +kernel))) rfl
theorem k_856 : Cond.methodLink "ShareTickets" (151 : Nat) ({ cls := "ShareTickets$Tree", name := "childrenOf", desc := "(I)I" } : MethodName) ∈ a_GT := a_inT (a_t_4 (List.mem_of_getElem? (i := 136) (by decide +kernel))) rfl
theorem s_857 : Cond.stringRef "ShareTickets" (173 : Nat) "no such number of a user" ∈ tables_1 := a_t_4 (List.mem_of_getElem? (i := 137) (by decide +kernel))
theorem k_858 : Cond.methodLink "ShareTicketsLaw" (125 : Nat) ({ cls := "ShareTicketsLaw", name := "addUser", desc := "(LShareTickets;II[J)I" } : MethodName) ∈ a_GT := a_inT (a_t_4 (List.mem_of_getElem? (i := 138) (by decide +kernel))) rfl
theorem k_859 : Cond.static ({ cls := "ShareTicketsLaw", name := "addUser", desc := "(LShareTickets;II[J)I" } : MethodName) ∈ a_GT := a_inT (a_t_4 (List.mem_of_getElem? (i := 139) (by decide +kernel))) rfl
theorem k_860 : Cond.codeWith ({ cls := "ShareTicketsLaw", name := "addUser", desc := "(LShareTickets;II[J)I" } : MethodName) method_7_code (5 : Nat) (Option.some ClassFile.FieldType.int) [((0 : Nat), (10 : Nat), (13 : Nat), (28 : Nat)), ((0 : Nat), (10 : Nat), (17 : Nat), (19 : Nat)), ((0 : Nat), (10 : Nat), (21 : Nat), (13 : Nat))] ∈ a_GT := a_inT (a_t_4 (List.mem_of_getElem? (i := 140) (by decide +kernel))) rfl
theorem k_861 : Cond.methodLink "ShareTicketsLaw" (30 : Nat) ({ cls := "ShareTickets", name := "addUser", desc := "(II)I" } : MethodName) ∈ a_GT := a_inT (a_t_4 (List.mem_of_getElem? (i := 141) (by decide +kernel))) rfl
theorem k_862 : Cond.instanceMethod ({ cls := "ShareTickets", name := "addUser", desc := "(II)I" } : MethodName) ∈ a_GT := a_inT (a_t_4 (List.mem_of_getElem? (i := 142) (by decide +kernel))) rfl
theorem k_863 : Cond.selects "ShareTickets" ({ cls := "ShareTickets", name := "addUser", desc := "(II)I" } : MethodName) ({ cls := "ShareTickets", name := "addUser", desc := "(II)I" } : MethodName) ∈ a_GT := a_inT (a_t_4 (List.mem_of_getElem? (i := 143) (by decide +kernel))) rfl
theorem k_864 : Cond.code ({ cls := "ShareTickets", name := "addUser", desc := "(II)I" } : MethodName) prog_1_method_7_code (3 : Nat) (Option.some ClassFile.FieldType.int) ∈ a_GT := a_inT (a_t_4 (List.mem_of_getElem? (i := 144) (by decide +kernel))) rfl
theorem k_865 : Cond.methodLink "ShareTickets" (175 : Nat) ({ cls := "ShareTickets", name := "needRange", desc := "(III)V" } : MethodName) ∈ a_GT := a_inT (a_t_4 (List.mem_of_getElem? (i := 145) (by decide +kernel))) rfl
theorem k_866 : Cond.static ({ cls := "ShareTickets", name := "needRange", desc := "(III)V" } : MethodName) ∈ a_GT := a_inT (a_t_4 (List.mem_of_getElem? (i := 146) (by decide +kernel))) rfl
theorem k_867 : Cond.code ({ cls := "ShareTickets", name := "needRange", desc := "(III)V" } : MethodName) prog_1_method_35_code (3 : Nat) (Option.none : Option ClassFile.FieldType) ∈ a_GT := a_inT (a_t_4 (List.mem_of_getElem? (i := 147) (by decide +kernel))) rfl
theorem s_868 : Cond.stringRef "ShareTickets" (377 : Nat) "a number out of its range" ∈ tables_1 := a_t_4 (List.mem_of_getElem? (i := 148) (by decide +kernel))
theorem k_869 : Cond.methodLink "ShareTickets" (179 : Nat) ({ cls := "ShareTickets$Tree", name := "isFull", desc := "()Z" } : MethodName) ∈ a_GT := a_inT (a_t_4 (List.mem_of_getElem? (i := 149) (by decide +kernel))) rfl
theorem k_870 : Cond.methodLink "ShareTickets" (183 : Nat) ({ cls := "ShareTickets$Jobs", name := "anyOf", desc := "(I)Z" } : MethodName) ∈ a_GT := a_inT (a_t_4 (List.mem_of_getElem? (i := 150) (by decide +kernel))) rfl
theorem k_871 : Cond.methodLink "ShareTickets" (187 : Nat) ({ cls := "ShareTickets$Loans", name := "anyOf", desc := "(I)Z" } : MethodName) ∈ a_GT := a_inT (a_t_4 (List.mem_of_getElem? (i := 151) (by decide +kernel))) rfl
theorem k_872 : Cond.instanceMethod ({ cls := "ShareTickets$Loans", name := "anyOf", desc := "(I)Z" } : MethodName) ∈ a_GT := a_inT (a_t_4 (List.mem_of_getElem? (i := 152) (by decide +kernel))) rfl
theorem k_873 : Cond.selects "ShareTickets$Loans" ({ cls := "ShareTickets$Loans", name := "anyOf", desc := "(I)Z" } : MethodName) ({ cls := "ShareTickets$Loans", name := "anyOf", desc := "(I)Z" } : MethodName) ∈ a_GT := a_inT (a_t_4 (List.mem_of_getElem? (i := 153) (by decide +kernel))) rfl
theorem k_874 : Cond.code ({ cls := "ShareTickets$Loans", name := "anyOf", desc := "(I)Z" } : MethodName) prog_4_method_6_code (3 : Nat) (Option.some ClassFile.FieldType.boolean) ∈ a_GT := a_inT (a_t_4 (List.mem_of_getElem? (i := 154) (by decide +kernel))) rfl
theorem s_875 : Cond.stringRef "ShareTickets" (188 : Nat) "no user can be added there" ∈ tables_1 := a_t_4 (List.mem_of_getElem? (i := 155) (by decide +kernel))
theorem k_876 : Cond.methodLink "ShareTickets" (190 : Nat) ({ cls := "ShareTickets$Tree", name := "add", desc := "(II)V" } : MethodName) ∈ a_GT := a_inT (a_t_4 (List.mem_of_getElem? (i := 156) (by decide +kernel))) rfl
theorem k_877 : Cond.methodLink "ShareTicketsLaw" (128 : Nat) ({ cls := "ShareTicketsLaw", name := "setShares", desc := "(LShareTickets;II[J)I" } : MethodName) ∈ a_GT := a_inT (a_t_4 (List.mem_of_getElem? (i := 157) (by decide +kernel))) rfl
theorem k_878 : Cond.static ({ cls := "ShareTicketsLaw", name := "setShares", desc := "(LShareTickets;II[J)I" } : MethodName) ∈ a_GT := a_inT (a_t_4 (List.mem_of_getElem? (i := 158) (by decide +kernel))) rfl
theorem k_879 : Cond.codeWith ({ cls := "ShareTicketsLaw", name := "setShares", desc := "(LShareTickets;II[J)I" } : MethodName) method_8_code (5 : Nat) (Option.some ClassFile.FieldType.int) [((0 : Nat), (10 : Nat), (13 : Nat), (28 : Nat)), ((0 : Nat), (10 : Nat), (17 : Nat), (19 : Nat))] ∈ a_GT := a_inT (a_t_4 (List.mem_of_getElem? (i := 159) (by decide +kernel))) rfl
theorem k_880 : Cond.methodLink "ShareTicketsLaw" (33 : Nat) ({ cls := "ShareTickets", name := "setShares", desc := "(II)I" } : MethodName) ∈ a_GT := a_inT (a_t_4 (List.mem_of_getElem? (i := 160) (by decide +kernel))) rfl
theorem k_881 : Cond.instanceMethod ({ cls := "ShareTickets", name := "setShares", desc := "(II)I" } : MethodName) ∈ a_GT := a_inT (a_t_4 (List.mem_of_getElem? (i := 161) (by decide +kernel))) rfl
theorem k_882 : Cond.selects "ShareTickets" ({ cls := "ShareTickets", name := "setShares", desc := "(II)I" } : MethodName) ({ cls := "ShareTickets", name := "setShares", desc := "(II)I" } : MethodName) ∈ a_GT := a_inT (a_t_4 (List.mem_of_getElem? (i := 162) (by decide +kernel))) rfl
theorem k_883 : Cond.code ({ cls := "ShareTickets", name := "setShares", desc := "(II)I" } : MethodName) prog_1_method_8_code (4 : Nat) (Option.some ClassFile.FieldType.int) ∈ a_GT := a_inT (a_t_4 (List.mem_of_getElem? (i := 163) (by decide +kernel))) rfl
theorem s_884 : Cond.stringRef "ShareTickets" (194 : Nat) "the root has no shares" ∈ tables_1 := a_t_4 (List.mem_of_getElem? (i := 164) (by decide +kernel))
theorem k_885 : Cond.methodLink "ShareTickets" (196 : Nat) ({ cls := "ShareTickets$Tree", name := "changeShares", desc := "(II)V" } : MethodName) ∈ a_GT := a_inT (a_t_4 (List.mem_of_getElem? (i := 165) (by decide +kernel))) rfl
theorem k_886 : Cond.instanceMethod ({ cls := "ShareTickets$Tree", name := "changeShares", desc := "(II)V" } : MethodName) ∈ a_GT := a_inT (a_t_4 (List.mem_of_getElem? (i := 166) (by decide +kernel))) rfl
theorem k_887 : Cond.selects "ShareTickets$Tree" ({ cls := "ShareTickets$Tree", name := "changeShares", desc := "(II)V" } : MethodName) ({ cls := "ShareTickets$Tree", name := "changeShares", desc := "(II)V" } : MethodName) ∈ a_GT := a_inT (a_t_4 (List.mem_of_getElem? (i := 167) (by decide +kernel))) rfl
theorem k_888 : Cond.code ({ cls := "ShareTickets$Tree", name := "changeShares", desc := "(II)V" } : MethodName) prog_10_method_9_code (3 : Nat) (Option.none : Option ClassFile.FieldType) ∈ a_GT := a_inT (a_t_4 (List.mem_of_getElem? (i := 168) (by decide +kernel))) rfl
theorem k_889 : Cond.methodLink "ShareTicketsLaw" (131 : Nat) ({ cls := "ShareTicketsLaw", name := "lend", desc := "(LShareTickets;IIII[J)I" } : MethodName) ∈ a_GT := a_inT (a_t_4 (List.mem_of_getElem? (i := 169) (by decide +kernel))) rfl
theorem k_890 : Cond.static ({ cls := "ShareTicketsLaw", name := "lend", desc := "(LShareTickets;IIII[J)I" } : MethodName) ∈ a_GT := a_inT (a_t_4 (List.mem_of_getElem? (i := 170) (by decide +kernel))) rfl
theorem k_891 : Cond.codeWith ({ cls := "ShareTicketsLaw", name := "lend", desc := "(LShareTickets;IIII[J)I" } : MethodName) method_9_code (7 : Nat) (Option.some ClassFile.FieldType.int) [((0 : Nat), (14 : Nat), (17 : Nat), (28 : Nat)), ((0 : Nat), (14 : Nat), (21 : Nat), (19 : Nat)), ((0 : Nat), (14 : Nat), (25 : Nat), (13 : Nat))] ∈ a_GT := a_inT (a_t_4 (List.mem_of_getElem? (i := 171) (by decide +kernel))) rfl
theorem k_892 : Cond.methodLink "ShareTicketsLaw" (36 : Nat) ({ cls := "ShareTickets", name := "lend", desc := "(IIII)I" } : MethodName) ∈ a_GT := a_inT (a_t_4 (List.mem_of_getElem? (i := 172) (by decide +kernel))) rfl
theorem k_893 : Cond.instanceMethod ({ cls := "ShareTickets", name := "lend", desc := "(IIII)I" } : MethodName) ∈ a_GT := a_inT (a_t_4 (List.mem_of_getElem? (i := 173) (by decide +kernel))) rfl
theorem k_894 : Cond.selects "ShareTickets" ({ cls := "ShareTickets", name := "lend", desc := "(IIII)I" } : MethodName) ({ cls := "ShareTickets", name := "lend", desc := "(IIII)I" } : MethodName) ∈ a_GT := a_inT (a_t_4 (List.mem_of_getElem? (i := 174) (by decide +kernel))) rfl
theorem k_895 : Cond.code ({ cls := "ShareTickets", name := "lend", desc := "(IIII)I" } : MethodName) prog_1_method_9_code (5 : Nat) (Option.some ClassFile.FieldType.int) ∈ a_GT := a_inT (a_t_4 (List.mem_of_getElem? (i := 175) (by decide +kernel))) rfl
theorem s_896 : Cond.stringRef "ShareTickets" (199 : Nat) "a user can't lend to itself" ∈ tables_1 := a_t_4 (List.mem_of_getElem? (i := 176) (by decide +kernel))
theorem k_897 : Cond.constant "ShareTickets" (201 : Nat) (500000 : Int32) ∈ a_GT := a_inT (a_t_4 (List.mem_of_getElem? (i := 177) (by decide +kernel))) rfl
theorem k_898 : Cond.methodLink "ShareTickets" (202 : Nat) ({ cls := "ShareTickets", name := "needLeaf", desc := "(I)V" } : MethodName) ∈ a_GT := a_inT (a_t_4 (List.mem_of_getElem? (i := 178) (by decide +kernel))) rfl
theorem k_900 : Cond.instanceMethod ({ cls := "ShareTickets", name := "needLeaf", desc := "(I)V" } : MethodName) ∈ a_GT := a_inT (a_t_4 (List.mem_of_getElem? (i := 180) (by decide +kernel))) rfl
theorem k_901 : Cond.code ({ cls := "ShareTickets", name := "needLeaf", desc := "(I)V" } : MethodName) prog_1_method_31_code (2 : Nat) (Option.none : Option ClassFile.FieldType) ∈ a_GT := a_inT (a_t_4 (List.mem_of_getElem? (i := 181) (by decide +kernel))) rfl
theorem s_902 : Cond.stringRef "ShareTickets" (364 : Nat) "the user is no leaf" ∈ tables_1 := a_t_4 (List.mem_of_getElem? (i := 182) (by decide +kernel))
theorem k_903 : Cond.methodLink "ShareTickets" (205 : Nat) ({ cls := "ShareTickets$Loans", name := "isFull", desc := "()Z" } : MethodName) ∈ a_GT := a_inT (a_t_4 (List.mem_of_getElem? (i := 183) (by decide +kernel))) rfl
theorem k_904 : Cond.instanceMethod ({ cls := "ShareTickets$Loans", name := "isFull", desc := "()Z" } : MethodName) ∈ a_GT := a_inT (a_t_4 (List.mem_of_getElem? (i := 184) (by decide +kernel))) rfl
theorem k_905 : Cond.selects "ShareTickets$Loans" ({ cls := "ShareTickets$Loans", name := "isFull", desc := "()Z" } : MethodName) ({ cls := "ShareTickets$Loans", name := "isFull", desc := "()Z" } : MethodName) ∈ a_GT := a_inT (a_t_4 (List.mem_of_getElem? (i := 185) (by decide +kernel))) rfl
theorem k_906 : Cond.code ({ cls := "ShareTickets$Loans", name := "isFull", desc := "()Z" } : MethodName) prog_4_method_5_code (1 : Nat) (Option.some ClassFile.FieldType.boolean) ∈ a_GT := a_inT (a_t_4 (List.mem_of_getElem? (i := 186) (by decide +kernel))) rfl
theorem s_907 : Cond.stringRef "ShareTickets" (206 : Nat) "this can't be lent" ∈ tables_1 := a_t_4 (List.mem_of_getElem? (i := 187) (by decide +kernel))
theorem k_908 : Cond.methodLink "ShareTickets" (208 : Nat) ({ cls := "ShareTickets$Loans", name := "add", desc := "(IIIII)V" } : MethodName) ∈ a_GT := a_inT (a_t_4 (List.mem_of_getElem? (i := 188) (by decide +kernel))) rfl
theorem k_909 : Cond.instanceMethod ({ cls := "ShareTickets$Loans", name := "add", desc := "(IIIII)V" } : MethodName) ∈ a_GT := a_inT (a_t_4 (List.mem_of_getElem? (i := 189) (by decide +kernel))) rfl
theorem k_910 : Cond.selects "ShareTickets$Loans" ({ cls := "ShareTickets$Loans", name := "add", desc := "(IIIII)V" } : MethodName) ({ cls := "ShareTickets$Loans", name := "add", desc := "(IIIII)V" } : MethodName) ∈ a_GT := a_inT (a_t_4 (List.mem_of_getElem? (i := 190) (by decide +kernel))) rfl
theorem k_911 : Cond.code ({ cls := "ShareTickets$Loans", name := "add", desc := "(IIIII)V" } : MethodName) prog_4_method_7_code (6 : Nat) (Option.none : Option ClassFile.FieldType) ∈ a_GT := a_inT (a_t_4 (List.mem_of_getElem? (i := 191) (by decide +kernel))) rfl
theorem k_912 : Cond.methodLink "ShareTickets$Loans" (37 : Nat) ({ cls := "ShareTickets$Loans", name := "isFull", desc := "()Z" } : MethodName) ∈ a_GT := a_inT (a_t_4 (List.mem_of_getElem? (i := 192) (by decide +kernel))) rfl
theorem k_913 : Cond.methodLink "ShareTicketsLaw" (135 : Nat) ({ cls := "ShareTicketsLaw", name := "loan", desc := "(LShareTickets;II[J)I" } : MethodName) ∈ a_GT := a_inT (a_t_4 (List.mem_of_getElem? (i := 193) (by decide +kernel))) rfl
theorem k_914 : Cond.static ({ cls := "ShareTicketsLaw", name := "loan", desc := "(LShareTickets;II[J)I" } : MethodName) ∈ a_GT := a_inT (a_t_4 (List.mem_of_getElem? (i := 194) (by decide +kernel))) rfl
theorem k_915 : Cond.codeWith ({ cls := "ShareTicketsLaw", name := "loan", desc := "(LShareTickets;II[J)I" } : MethodName) method_10_code (5 : Nat) (Option.some ClassFile.FieldType.int) [((0 : Nat), (10 : Nat), (13 : Nat), (28 : Nat)), ((0 : Nat), (10 : Nat), (17 : Nat), (19 : Nat))] ∈ a_GT := a_inT (a_t_4 (List.mem_of_getElem? (i := 195) (by decide +kernel))) rfl
theorem k_916 : Cond.methodLink "ShareTicketsLaw" (40 : Nat) ({ cls := "ShareTickets", name := "loan", desc := "(II)I" } : MethodName) ∈ a_GT := a_inT (a_t_4 (List.mem_of_getElem? (i := 196) (by decide +kernel))) rfl
theorem k_917 : Cond.instanceMethod ({ cls := "ShareTickets", name := "loan", desc := "(II)I" } : MethodName) ∈ a_GT := a_inT (a_t_4 (List.mem_of_getElem? (i := 197) (by decide +kernel))) rfl
theorem k_918 : Cond.selects "ShareTickets" ({ cls := "ShareTickets", name := "loan", desc := "(II)I" } : MethodName) ({ cls := "ShareTickets", name := "loan", desc := "(II)I" } : MethodName) ∈ a_GT := a_inT (a_t_4 (List.mem_of_getElem? (i := 198) (by decide +kernel))) rfl
theorem k_919 : Cond.code ({ cls := "ShareTickets", name := "loan", desc := "(II)I" } : MethodName) prog_1_method_10_code (4 : Nat) (Option.some ClassFile.FieldType.int) ∈ a_GT := a_inT (a_t_4 (List.mem_of_getElem? (i := 199) (by decide +kernel))) rfl
theorem k_920 : Cond.methodLink "ShareTickets" (211 : Nat) ({ cls := "ShareTickets$Loans", name := "has", desc := "(I)Z" } : MethodName) ∈ a_GT := a_inT (a_t_4 (List.mem_of_getElem? (i := 200) (by decide +kernel))) rfl
theorem s_921 : Cond.stringRef "ShareTickets" (216 : Nat) "no such loan" ∈ tables_1 := a_t_4 (List.mem_of_getElem? (i := 201) (by decide +kernel))
theorem k_922 : Cond.methodLink "ShareTickets" (226 : Nat) ({ cls := "ShareTickets$Loans", name := "isLent", desc := "(II)Z" } : MethodName) ∈ a_GT := a_inT (a_t_4 (List.mem_of_getElem? (i := 202) (by decide +kernel))) rfl
theorem k_923 : Cond.methodLink "ShareTickets" (230 : Nat) ({ cls := "ShareTickets$Loans", name := "goneAt", desc := "(I)I" } : MethodName) ∈ a_GT := a_inT (a_t_4 (List.mem_of_getElem? (i := 203) (by decide +kernel))) rfl
theorem k_924 : Cond.instanceMethod ({ cls := "ShareTickets$Loans", name := "goneAt", desc := "(I)I" } : MethodName) ∈ a_GT := a_inT (a_t_4 (List.mem_of_getElem? (i := 204) (by decide +kernel))) rfl
theorem k_925 : Cond.selects "ShareTickets$Loans" ({ cls := "ShareTickets$Loans", name := "goneAt", desc := "(I)I" } : MethodName) ({ cls := "ShareTickets$Loans", name := "goneAt", desc := "(I)I" } : MethodName) ∈ a_GT := a_inT (a_t_4 (List.mem_of_getElem? (i := 205) (by decide +kernel))) rfl
theorem k_926 : Cond.code ({ cls := "ShareTickets$Loans", name := "goneAt", desc := "(I)I" } : MethodName) prog_4_method_9_code (2 : Nat) (Option.some ClassFile.FieldType.int) ∈ a_GT := a_inT (a_t_4 (List.mem_of_getElem? (i := 206) (by decide +kernel))) rfl
theorem s_927 : Cond.stringRef "ShareTickets" (233 : Nat) "no such number of a loan" ∈ tables_1 := a_t_4 (List.mem_of_getElem? (i := 207) (by decide +kernel))
theorem k_928 : Cond.methodLink "ShareTicketsLaw" (138 : Nat) ({ cls := "ShareTicketsLaw", name := "balance", desc := "(LShareTickets;I[J)I" } : MethodName) ∈ a_GT := a_inT (a_t_4 (List.mem_of_getElem? (i := 208) (by decide +kernel))) rfl
theorem k_929 : Cond.static ({ cls := "ShareTicketsLaw", name := "balance", desc := "(LShareTickets;I[J)I" } : MethodName) ∈ a_GT := a_inT (a_t_4 (List.mem_of_getElem? (i := 209) (by decide +kernel))) rfl
theorem k_930 : Cond.codeWith ({ cls := "ShareTicketsLaw", name := "balance", desc := "(LShareTickets;I[J)I" } : MethodName) method_11_code (4 : Nat) (Option.some ClassFile.FieldType.int) [((0 : Nat), (9 : Nat), (12 : Nat), (28 : Nat))] ∈ a_GT := a_inT (a_t_4 (List.mem_of_getElem? (i := 210) (by decide +kernel))) rfl
theorem k_931 : Cond.methodLink "ShareTicketsLaw" (43 : Nat) ({ cls := "ShareTickets", name := "balance", desc := "(I)I" } : MethodName) ∈ a_GT := a_inT (a_t_4 (List.mem_of_getElem? (i := 211) (by decide +kernel))) rfl
theorem k_932 : Cond.instanceMethod ({ cls := "ShareTickets", name := "balance", desc := "(I)I" } : MethodName) ∈ a_GT := a_inT (a_t_4 (List.mem_of_getElem? (i := 212) (by decide +kernel))) rfl
theorem k_933 : Cond.selects "ShareTickets" ({ cls := "ShareTickets", name := "balance", desc := "(I)I" } : MethodName) ({ cls := "ShareTickets", name := "balance", desc := "(I)I" } : MethodName) ∈ a_GT := a_inT (a_t_4 (List.mem_of_getElem? (i := 213) (by decide +kernel))) rfl
theorem k_934 : Cond.code ({ cls := "ShareTickets", name := "balance", desc := "(I)I" } : MethodName) prog_1_method_11_code (2 : Nat) (Option.some ClassFile.FieldType.int) ∈ a_GT := a_inT (a_t_4 (List.mem_of_getElem? (i := 214) (by decide +kernel))) rfl
theorem k_935 : Cond.methodLink "ShareTickets" (235 : Nat) ({ cls := "ShareTickets$Loans", name := "balanceOf", desc := "(II)I" } : MethodName) ∈ a_GT := a_inT (a_t_4 (List.mem_of_getElem? (i := 215) (by decide +kernel))) rfl
theorem k_936 : Cond.instanceMethod ({ cls := "ShareTickets$Loans", name := "balanceOf", desc := "(II)I" } : MethodName) ∈ a_GT := a_inT (a_t_4 (List.mem_of_getElem? (i := 216) (by decide +kernel))) rfl
theorem k_937 : Cond.selects "ShareTickets$Loans" ({ cls := "ShareTickets$Loans", name := "balanceOf", desc := "(II)I" } : MethodName) ({ cls := "ShareTickets$Loans", name := "balanceOf", desc := "(II)I" } : MethodName) ∈ a_GT := a_inT (a_t_4 (List.mem_of_getElem? (i := 217) (by decide +kernel))) rfl
theorem k_938 : Cond.code ({ cls := "ShareTickets$Loans", name := "balanceOf", desc := "(II)I" } : MethodName) prog_4_method_12_code (8 : Nat) (Option.some ClassFile.FieldType.int) ∈ a_GT := a_inT (a_t_4 (List.mem_of_getElem? (i := 218) (by decide +kernel))) rfl
theorem k_939 : Cond.methodLink "ShareTickets$Loans" (52 : Nat) ({ cls := "java/lang/Math", name := "max", desc := "(II)I" } : MethodName) ∈ a_GT := a_inT (a_t_4 (List.mem_of_getElem? (i := 219) (by decide +kernel))) rfl
theorem k_940 : Cond.methodLink "ShareTickets$Loans" (49 : Nat) ({ cls := "ShareTickets$Loans", name := "goneAt", desc := "(I)I" } : MethodName) ∈ a_GT := a_inT (a_t_4 (List.mem_of_getElem? (i := 220) (by decide +kernel))) rfl
theorem k_941 : Cond.methodLink "ShareTicketsLaw" (141 : Nat) ({ cls := "ShareTicketsLaw", name := "ranked", desc := "(LShareTickets;I[J)I" } : MethodName) ∈ a_GT := a_inT (a_t_4 (List.mem_of_getElem? (i := 221) (by decide +kernel))) rfl
theorem k_942 : Cond.static ({ cls := "ShareTicketsLaw", name := "ranked", desc := "(LShareTickets;I[J)I" } : MethodName) ∈ a_GT := a_inT (a_t_4 (List.mem_of_getElem? (i := 222) (by decide +kernel))) rfl
theorem k_943 : Cond.codeWith ({ cls := "ShareTicketsLaw", name := "ranked", desc := "(LShareTickets;I[J)I" } : MethodName) method_12_code (4 : Nat) (Option.some ClassFile.FieldType.int) [((0 : Nat), (9 : Nat), (12 : Nat), (28 : Nat))] ∈ a_GT := a_inT (a_t_4 (List.mem_of_getElem? (i := 223) (by decide +kernel))) rfl
theorem k_944 : Cond.methodLink "ShareTicketsLaw" (46 : Nat) ({ cls := "ShareTickets", name := "ranked", desc := "(I)I" } : MethodName) ∈ a_GT := a_inT (a_t_4 (List.mem_of_getElem? (i := 224) (by decide +kernel))) rfl
theorem k_945 : Cond.instanceMethod ({ cls := "ShareTickets", name := "ranked", desc := "(I)I" } : MethodName) ∈ a_GT := a_inT (a_t_4 (List.mem_of_getElem? (i := 225) (by decide +kernel))) rfl
theorem k_946 : Cond.selects "ShareTickets" ({ cls := "ShareTickets", name := "ranked", desc := "(I)I" } : MethodName) ({ cls := "ShareTickets", name := "ranked", desc := "(I)I" } : MethodName) ∈ a_GT := a_inT (a_t_4 (List.mem_of_getElem? (i := 226) (by decide +kernel))) rfl
theorem k_947 : Cond.code ({ cls := "ShareTickets", name := "ranked", desc := "(I)I" } : MethodName) prog_1_method_12_code (3 : Nat) (Option.some ClassFile.FieldType.int) ∈ a_GT := a_inT (a_t_4 (List.mem_of_getElem? (i := 227) (by decide +kernel))) rfl
theorem k_948 : Cond.methodLink "ShareTickets" (239 : Nat) ({ cls := "ShareTickets$Place", name := "leafRanked", desc := "(I)I" } : MethodName) ∈ a_GT := a_inT (a_t_4 (List.mem_of_getElem? (i := 228) (by decide +kernel))) rfl
theorem k_949 : Cond.instanceMethod ({ cls := "ShareTickets$Place", name := "leafRanked", desc := "(I)I" } : MethodName) ∈ a_GT := a_inT (a_t_4 (List.mem_of_getElem? (i := 229) (by decide +kernel))) rfl
theorem k_950 : Cond.selects "ShareTickets$Place" ({ cls := "ShareTickets$Place", name := "leafRanked", desc := "(I)I" } : MethodName) ({ cls := "ShareTickets$Place", name := "leafRanked", desc := "(I)I" } : MethodName) ∈ a_GT := a_inT (a_t_4 (List.mem_of_getElem? (i := 230) (by decide +kernel))) rfl
theorem k_951 : Cond.code ({ cls := "ShareTickets$Place", name := "leafRanked", desc := "(I)I" } : MethodName) prog_7_method_18_code (3 : Nat) (Option.some ClassFile.FieldType.int) ∈ a_GT := a_inT (a_t_4 (List.mem_of_getElem? (i := 231) (by decide +kernel))) rfl
theorem k_952 : Cond.methodLink "ShareTickets$Place" (203 : Nat) ({ cls := "ShareTickets$Tree", name := "isLeaf", desc := "(I)Z" } : MethodName) ∈ a_GT := a_inT (a_t_4 (List.mem_of_getElem? (i := 232) (by decide +kernel))) rfl
theorem k_953 : Cond.methodLink "ShareTickets$Place" (206 : Nat) ({ cls := "ShareTickets$Place", name := "leavesBefore", desc := "(I)I" } : MethodName) ∈ a_GT := a_inT (a_t_4 (List.mem_of_getElem? (i := 233) (by decide +kernel))) rfl
theorem k_955 : Cond.instanceMethod ({ cls := "ShareTickets$Place", name := "leavesBefore", desc := "(I)I" } : MethodName) ∈ a_GT := a_inT (a_t_4 (List.mem_of_getElem? (i := 235) (by decide +kernel))) rfl
theorem k_956 : Cond.code ({ cls := "ShareTickets$Place", name := "leavesBefore", desc := "(I)I" } : MethodName) prog_7_method_19_code (8 : Nat) (Option.some ClassFile.FieldType.int) ∈ a_GT := a_inT (a_t_4 (List.mem_of_getElem? (i := 236) (by decide +kernel))) rfl
theorem s_957 : Cond.stringRef "ShareTickets" (242 : Nat) "not so many leaves" ∈ tables_1 := a_t_4 (List.mem_of_getElem? (i := 237) (by decide +kernel))
theorem k_958 : Cond.methodLink "ShareTicketsLaw" (144 : Nat) ({ cls := "ShareTicketsLaw", name := "worth", desc := "(LShareTickets;II[J)I" } : MethodName) ∈ a_GT := a_inT (a_t_4 (List.mem_of_getElem? (i := 238) (by decide +kernel))) rfl
theorem k_959 : Cond.static ({ cls := "ShareTicketsLaw", name := "worth", desc := "(LShareTickets;II[J)I" } : MethodName) ∈ a_GT := a_inT (a_t_4 (List.mem_of_getElem? (i := 239) (by decide +kernel))) rfl
theorem k_960 : Cond.codeWith ({ cls := "ShareTicketsLaw", name := "worth", desc := "(LShareTickets;II[J)I" } : MethodName) method_13_code (5 : Nat) (Option.some ClassFile.FieldType.int) [((0 : Nat), (9 : Nat), (12 : Nat), (28 : Nat)), ((0 : Nat), (9 : Nat), (16 : Nat), (19 : Nat)), ((0 : Nat), (9 : Nat), (20 : Nat), (13 : Nat))] ∈ a_GT := a_inT (a_t_5 (List.mem_of_getElem? (i := 0) (by decide +kernel))) rfl
theorem k_961 : Cond.methodLink "ShareTicketsLaw" (49 : Nat) ({ cls := "ShareTickets", name := "worth", desc := "(II)J" } : MethodName) ∈ a_GT := a_inT (a_t_5 (List.mem_of_getElem? (i := 1) (by decide +kernel))) rfl
theorem k_962 : Cond.instanceMethod ({ cls := "ShareTickets", name := "worth", desc := "(II)J" } : MethodName) ∈ a_GT := a_inT (a_t_5 (List.mem_of_getElem? (i := 2) (by decide +kernel))) rfl
theorem k_963 : Cond.selects "ShareTickets" ({ cls := "ShareTickets", name := "worth", desc := "(II)J" } : MethodName) ({ cls := "ShareTickets", name := "worth", desc := "(II)J" } : MethodName) ∈ a_GT := a_inT (a_t_5 (List.mem_of_getElem? (i := 3) (by decide +kernel))) rfl
theorem k_964 : Cond.code ({ cls := "ShareTickets", name := "worth", desc := "(II)J" } : MethodName) prog_1_method_13_code (3 : Nat) (Option.some ClassFile.FieldType.long) ∈ a_GT := a_inT (a_t_5 (List.mem_of_getElem? (i := 4) (by decide +kernel))) rfl
theorem k_965 : Cond.methodLink "ShareTickets" (244 : Nat) ({ cls := "ShareTickets", name := "worthOf", desc := "(III)J" } : MethodName) ∈ a_GT := a_inT (a_t_5 (List.mem_of_getElem? (i := 5) (by decide +kernel))) rfl
theorem k_966 : Cond.methodLink "ShareTicketsLaw" (147 : Nat) ({ cls := "ShareTicketsLaw", name := "machine", desc := "(LShareTickets;II[J)I" } : MethodName) ∈ a_GT := a_inT (a_t_5 (List.mem_of_getElem? (i := 6) (by decide +kernel))) rfl
theorem k_967 : Cond.static ({ cls := "ShareTicketsLaw", name := "machine", desc := "(LShareTickets;II[J)I" } : MethodName) ∈ a_GT := a_inT (a_t_5 (List.mem_of_getElem? (i := 7) (by decide +kernel))) rfl
theorem k_968 : Cond.codeWith ({ cls := "ShareTicketsLaw", name := "machine", desc := "(LShareTickets;II[J)I" } : MethodName) method_14_code (5 : Nat) (Option.some ClassFile.FieldType.int) [((0 : Nat), (10 : Nat), (13 : Nat), (28 : Nat)), ((0 : Nat), (10 : Nat), (17 : Nat), (19 : Nat))] ∈ a_GT := a_inT (a_t_5 (List.mem_of_getElem? (i := 8) (by decide +kernel))) rfl
theorem k_969 : Cond.methodLink "ShareTicketsLaw" (53 : Nat) ({ cls := "ShareTickets", name := "machine", desc := "(II)I" } : MethodName) ∈ a_GT := a_inT (a_t_5 (List.mem_of_getElem? (i := 9) (by decide +kernel))) rfl
theorem k_970 : Cond.instanceMethod ({ cls := "ShareTickets", name := "machine", desc := "(II)I" } : MethodName) ∈ a_GT := a_inT (a_t_5 (List.mem_of_getElem? (i := 10) (by decide +kernel))) rfl
theorem k_971 : Cond.selects "ShareTickets" ({ cls := "ShareTickets", name := "machine", desc := "(II)I" } : MethodName) ({ cls := "ShareTickets", name := "machine", desc := "(II)I" } : MethodName) ∈ a_GT := a_inT (a_t_5 (List.mem_of_getElem? (i := 11) (by decide +kernel))) rfl
theorem k_972 : Cond.code ({ cls := "ShareTickets", name := "machine", desc := "(II)I" } : MethodName) prog_1_method_14_code (3 : Nat) (Option.some ClassFile.FieldType.int) ∈ a_GT := a_inT (a_t_5 (List.mem_of_getElem? (i := 12) (by decide +kernel))) rfl
theorem k_973 : Cond.methodLink "ShareTickets" (248 : Nat) ({ cls := "ShareTickets", name := "needMachine", desc := "(I)V" } : MethodName) ∈ a_GT := a_inT (a_t_5 (List.mem_of_getElem? (i := 13) (by decide +kernel))) rfl
theorem k_975 : Cond.instanceMethod ({ cls := "ShareTickets", name := "needMachine", desc := "(I)V" } : MethodName) ∈ a_GT := a_inT (a_t_5 (List.mem_of_getElem? (i := 15) (by decide +kernel))) rfl
theorem k_976 : Cond.code ({ cls := "ShareTickets", name := "needMachine", desc := "(I)V" } : MethodName) prog_1_method_32_code (2 : Nat) (Option.none : Option ClassFile.FieldType) ∈ a_GT := a_inT (a_t_5 (List.mem_of_getElem? (i := 16) (by decide +kernel))) rfl
theorem k_977 : Cond.methodLink "ShareTickets" (366 : Nat) ({ cls := "ShareTickets$Machines", name := "has", desc := "(I)Z" } : MethodName) ∈ a_GT := a_inT (a_t_5 (List.mem_of_getElem? (i := 17) (by decide +kernel))) rfl
theorem s_978 : Cond.stringRef "ShareTickets" (367 : Nat) "no such machine" ∈ tables_1 := a_t_5 (List.mem_of_getElem? (i := 18) (by decide +kernel))
theorem k_979 : Cond.methodLink "ShareTickets" (254 : Nat) ({ cls := "ShareTickets$Machines", name := "isUp", desc := "(I)Z" } : MethodName) ∈ a_GT := a_inT (a_t_5 (List.mem_of_getElem? (i := 19) (by decide +kernel))) rfl
theorem k_980 : Cond.methodLink "ShareTickets" (260 : Nat) ({ cls := "ShareTickets$Place", name := "leastRunning", desc := "(I)I" } : MethodName) ∈ a_GT := a_inT (a_t_5 (List.mem_of_getElem? (i := 20) (by decide +kernel))) rfl
theorem k_981 : Cond.instanceMethod ({ cls := "ShareTickets$Place", name := "leastRunning", desc := "(I)I" } : MethodName) ∈ a_GT := a_inT (a_t_5 (List.mem_of_getElem? (i := 21) (by decide +kernel))) rfl
theorem k_982 : Cond.selects "ShareTickets$Place" ({ cls := "ShareTickets$Place", name := "leastRunning", desc := "(I)I" } : MethodName) ({ cls := "ShareTickets$Place", name := "leastRunning", desc := "(I)I" } : MethodName) ∈ a_GT := a_inT (a_t_5 (List.mem_of_getElem? (i := 22) (by decide +kernel))) rfl
theorem k_983 : Cond.code ({ cls := "ShareTickets$Place", name := "leastRunning", desc := "(I)I" } : MethodName) prog_7_method_9_code (8 : Nat) (Option.some ClassFile.FieldType.int) ∈ a_GT := a_inT (a_t_5 (List.mem_of_getElem? (i := 23) (by decide +kernel))) rfl
theorem k_984 : Cond.methodLink "ShareTickets$Place" (131 : Nat) ({ cls := "ShareTickets$Jobs", name := "runsOn", desc := "(II)Z" } : MethodName) ∈ a_GT := a_inT (a_t_5 (List.mem_of_getElem? (i := 24) (by decide +kernel))) rfl
theorem k_985 : Cond.methodLink "ShareTickets$Place" (135 : Nat) ({ cls := "ShareTickets$Scale", name := "nowWorthOf", desc := "(I)J" } : MethodName) ∈ a_GT := a_inT (a_t_5 (List.mem_of_getElem? (i := 25) (by decide +kernel))) rfl
theorem k_986 : Cond.instanceMethod ({ cls := "ShareTickets$Scale", name := "nowWorthOf", desc := "(I)J" } : MethodName) ∈ a_GT := a_inT (a_t_5 (List.mem_of_getElem? (i := 26) (by decide +kernel))) rfl
theorem k_987 : Cond.selects "ShareTickets$Scale" ({ cls := "ShareTickets$Scale", name := "nowWorthOf", desc := "(I)J" } : MethodName) ({ cls := "ShareTickets$Scale", name := "nowWorthOf", desc := "(I)J" } : MethodName) ∈ a_GT := a_inT (a_t_5 (List.mem_of_getElem? (i := 27) (by decide +kernel))) rfl
theorem k_988 : Cond.code ({ cls := "ShareTickets$Scale", name := "nowWorthOf", desc := "(I)J" } : MethodName) prog_8_method_8_code (2 : Nat) (Option.some ClassFile.FieldType.long) ∈ a_GT := a_inT (a_t_5 (List.mem_of_getElem? (i := 28) (by decide +kernel))) rfl
theorem s_989 : Cond.stringRef "ShareTickets" (263 : Nat) "no such number of a machine" ∈ tables_1 := a_t_5 (List.mem_of_getElem? (i := 29) (by decide +kernel))
theorem k_990 : Cond.methodLink "ShareTicketsLaw" (150 : Nat) ({ cls := "ShareTicketsLaw", name := "job", desc := "(LShareTickets;II[J)I" } : MethodName) ∈ a_GT := a_inT (a_t_5 (List.mem_of_getElem? (i := 30) (by decide +kernel))) rfl
theorem k_991 : Cond.static ({ cls := "ShareTicketsLaw", name := "job", desc := "(LShareTickets;II[J)I" } : MethodName) ∈ a_GT := a_inT (a_t_5 (List.mem_of_getElem? (i := 31) (by decide +kernel))) rfl
theorem k_992 : Cond.codeWith ({ cls := "ShareTicketsLaw", name := "job", desc := "(LShareTickets;II[J)I" } : MethodName) method_15_code (5 : Nat) (Option.some ClassFile.FieldType.int) [((0 : Nat), (10 : Nat), (13 : Nat), (28 : Nat)), ((0 : Nat), (10 : Nat), (17 : Nat), (19 : Nat))] ∈ a_GT := a_inT (a_t_5 (List.mem_of_getElem? (i := 32) (by decide +kernel))) rfl
theorem k_993 : Cond.methodLink "ShareTicketsLaw" (56 : Nat) ({ cls := "ShareTickets", name := "job", desc := "(II)I" } : MethodName) ∈ a_GT := a_inT (a_t_5 (List.mem_of_getElem? (i := 33) (by decide +kernel))) rfl
theorem k_994 : Cond.instanceMethod ({ cls := "ShareTickets", name := "job", desc := "(II)I" } : MethodName) ∈ a_GT := a_inT (a_t_5 (List.mem_of_getElem? (i := 34) (by decide +kernel))) rfl
theorem k_995 : Cond.selects "ShareTickets" ({ cls := "ShareTickets", name := "job", desc := "(II)I" } : MethodName) ({ cls := "ShareTickets", name := "job", desc := "(II)I" } : MethodName) ∈ a_GT := a_inT (a_t_5 (List.mem_of_getElem? (i := 35) (by decide +kernel))) rfl
theorem k_996 : Cond.code ({ cls := "ShareTickets", name := "job", desc := "(II)I" } : MethodName) prog_1_method_15_code (4 : Nat) (Option.some ClassFile.FieldType.int) ∈ a_GT := a_inT (a_t_5 (List.mem_of_getElem? (i := 36) (by decide +kernel))) rfl
theorem k_997 : Cond.methodLink "ShareTickets" (265 : Nat) ({ cls := "ShareTickets", name := "needJob", desc := "(I)V" } : MethodName) ∈ a_GT := a_inT (a_t_5 (List.mem_of_getElem? (i := 37) (by decide +kernel))) rfl
theorem k_999 : Cond.instanceMethod ({ cls := "ShareTickets", name := "needJob", desc := "(I)V" } : MethodName) ∈ a_GT := a_inT (a_t_5 (List.mem_of_getElem? (i := 39) (by decide +kernel))) rfl
theorem k_1000 : Cond.code ({ cls := "ShareTickets", name := "needJob", desc := "(I)V" } : MethodName) prog_1_method_33_code (2 : Nat) (Option.none : Option ClassFile.FieldType) ∈ a_GT := a_inT (a_t_5 (List.mem_of_getElem? (i := 40) (by decide +kernel))) rfl
theorem k_1001 : Cond.methodLink "ShareTickets" (369 : Nat) ({ cls := "ShareTickets$Jobs", name := "has", desc := "(I)Z" } : MethodName) ∈ a_GT := a_inT (a_t_5 (List.mem_of_getElem? (i := 41) (by decide +kernel))) rfl
theorem s_1002 : Cond.stringRef "ShareTickets" (370 : Nat) "no such job" ∈ tables_1 := a_t_5 (List.mem_of_getElem? (i := 42) (by decide +kernel))
theorem s_1003 : Cond.stringRef "ShareTickets" (289 : Nat) "no such number of a job" ∈ tables_1 := a_t_5 (List.mem_of_getElem? (i := 43) (by decide +kernel))
theorem k_1004 : Cond.methodLink "ShareTicketsLaw" (153 : Nat) ({ cls := "ShareTicketsLaw", name := "first", desc := "(LShareTickets;[J)I" } : MethodName) ∈ a_GT := a_inT (a_t_5 (List.mem_of_getElem? (i := 44) (by decide +kernel))) rfl
theorem k_1005 : Cond.static ({ cls := "ShareTicketsLaw", name := "first", desc := "(LShareTickets;[J)I" } : MethodName) ∈ a_GT := a_inT (a_t_5 (List.mem_of_getElem? (i := 45) (by decide +kernel))) rfl
theorem k_1006 : Cond.codeWith ({ cls := "ShareTicketsLaw", name := "first", desc := "(LShareTickets;[J)I" } : MethodName) method_16_code (3 : Nat) (Option.some ClassFile.FieldType.int) [((0 : Nat), (8 : Nat), (11 : Nat), (63 : Nat))] ∈ a_GT := a_inT (a_t_5 (List.mem_of_getElem? (i := 46) (by decide +kernel))) rfl
theorem k_1007 : Cond.classLink "ShareTicketsLaw" (63 : Nat) "java/util/NoSuchElementException" ∈ a_GT := a_inT (a_t_5 (List.mem_of_getElem? (i := 47) (by decide +kernel))) rfl
theorem k_1008 : Cond.methodLink "ShareTicketsLaw" (59 : Nat) ({ cls := "ShareTickets", name := "first", desc := "()I" } : MethodName) ∈ a_GT := a_inT (a_t_5 (List.mem_of_getElem? (i := 48) (by decide +kernel))) rfl
theorem k_1009 : Cond.instanceMethod ({ cls := "ShareTickets", name := "first", desc := "()I" } : MethodName) ∈ a_GT := a_inT (a_t_5 (List.mem_of_getElem? (i := 49) (by decide +kernel))) rfl
theorem k_1010 : Cond.selects "ShareTickets" ({ cls := "ShareTickets", name := "first", desc := "()I" } : MethodName) ({ cls := "ShareTickets", name := "first", desc := "()I" } : MethodName) ∈ a_GT := a_inT (a_t_5 (List.mem_of_getElem? (i := 50) (by decide +kernel))) rfl
theorem k_1011 : Cond.code ({ cls := "ShareTickets", name := "first", desc := "()I" } : MethodName) prog_1_method_16_code (2 : Nat) (Option.some ClassFile.FieldType.int) ∈ a_GT := a_inT (a_t_5 (List.mem_of_getElem? (i := 51) (by decide +kernel))) rfl
theorem k_1012 : Cond.methodLink "ShareTickets" (291 : Nat) ({ cls := "ShareTickets$Place", name := "bestWaiting", desc := "()I" } : MethodName) ∈ a_GT := a_inT (a_t_5 (List.mem_of_getElem? (i := 52) (by decide +kernel))) rfl
theorem k_1013 : Cond.classLink "ShareTickets" (294 : Nat) "java/util/NoSuchElementException" ∈ a_GT := a_inT (a_t_5 (List.mem_of_getElem? (i := 53) (by decide +kernel))) rfl
theorem k_1014 : Cond.instantiable "java/util/NoSuchElementException" (6 : Nat) ∈ a_GT := a_inT (a_t_5 (List.mem_of_getElem? (i := 54) (by decide +kernel))) rfl
theorem g_1015 : Cond.castable "java/util/NoSuchElementException" "java/util/NoSuchElementException" ∈ a_GN := a_inN (a_t_5 (List.mem_of_getElem? (i := 55) (by decide +kernel))) rfl
theorem k_1016 : Cond.selects "java/util/NoSuchElementException" ({ cls := "java/lang/Throwable", name := "fillInStackTrace", desc := "(I)Ljava/lang/Throwable;" } : MethodName) ({ cls := "java/lang/Throwable", name := "fillInStackTrace", desc := "(I)Ljava/lang/Throwable;" } : MethodName) ∈ a_GT := a_inT (a_t_5 (List.mem_of_getElem? (i := 56) (by decide +kernel))) rfl
theorem k_1017 : Cond.lays "java/util/NoSuchElementException" "java/lang/Throwable" "cause" "Ljava/lang/Throwable;" ∈ a_GT := a_inT (a_t_5 (List.mem_of_getElem? (i := 57) (by decide +kernel))) rfl
theorem k_1018 : Cond.lays "java/util/NoSuchElementException" "java/lang/Throwable" "stackTrace" "[Ljava/lang/StackTraceElement;" ∈ a_GT := a_inT (a_t_5 (List.mem_of_getElem? (i := 58) (by decide +kernel))) rfl
theorem k_1019 : Cond.lays "java/util/NoSuchElementException" "java/lang/Throwable" "suppressedExceptions" "Ljava/util/List;" ∈ a_GT := a_inT (a_t_5 (List.mem_of_getElem? (i := 59) (by decide +kernel))) rfl
theorem k_1020 : Cond.lays "java/util/NoSuchElementException" "java/lang/Throwable" "detailMessage" "Ljava/lang/String;" ∈ a_GT := a_inT (a_t_5 (List.mem_of_getElem? (i := 60) (by decide +kernel))) rfl
theorem k_1021 : Cond.lays "java/util/NoSuchElementException" "java/lang/Throwable" "backtrace" "Ljava/lang/Object;" ∈ a_GT := a_inT (a_t_5 (List.mem_of_getElem? (i := 61) (by decide +kernel))) rfl
theorem s_1022 : Cond.stringRef "ShareTickets" (296 : Nat) "no job is waiting" ∈ tables_1 := a_t_5 (List.mem_of_getElem? (i := 62) (by decide +kernel))
theorem k_1023 : Cond.methodLink "ShareTickets" (298 : Nat) ({ cls := "java/util/NoSuchElementException", name := "<init>", desc := "(Ljava/lang/String;)V" } : MethodName) ∈ a_GT := a_inT (a_t_5 (List.mem_of_getElem? (i := 63) (by decide +kernel))) rfl
theorem k_1024 : Cond.instanceMethod ({ cls := "java/util/NoSuchElementException", name := "<init>", desc := "(Ljava/lang/String;)V" } : MethodName) ∈ a_GT := a_inT (a_t_5 (List.mem_of_getElem? (i := 64) (by decide +kernel))) rfl
theorem k_1025 : Cond.code ({ cls := "java/util/NoSuchElementException", name := "<init>", desc := "(Ljava/lang/String;)V" } : MethodName) prog_29_method_4_code (2 : Nat) (Option.none : Option ClassFile.FieldType) ∈ a_GT := a_inT (a_t_5 (List.mem_of_getElem? (i := 65) (by decide +kernel))) rfl
theorem k_1026 : Cond.methodLink "java/util/NoSuchElementException" (13 : Nat) ({ cls := "java/lang/RuntimeException", name := "<init>", desc := "(Ljava/lang/String;)V" } : MethodName) ∈ a_GT := a_inT (a_t_5 (List.mem_of_getElem? (i := 66) (by decide +kernel))) rfl
theorem k_1027 : Cond.lays "java/util/NoSuchElementException" "java/lang/Throwable" "depth" "I" ∈ a_GT := a_inT (a_t_5 (List.mem_of_getElem? (i := 67) (by decide +kernel))) rfl
theorem k_1028 : Cond.superclass "java/util/NoSuchElementException" "java/lang/RuntimeException" ∈ a_GT := a_inT (a_t_5 (List.mem_of_getElem? (i := 68) (by decide +kernel))) rfl
theorem k_1029 : Cond.methodLink "ShareTicketsLaw" (157 : Nat) ({ cls := "ShareTicketsLaw", name := "submit", desc := "(LShareTickets;II[J)I" } : MethodName) ∈ a_GT := a_inT (a_t_5 (List.mem_of_getElem? (i := 69) (by decide +kernel))) rfl
theorem k_1030 : Cond.static ({ cls := "ShareTicketsLaw", name := "submit", desc := "(LShareTickets;II[J)I" } : MethodName) ∈ a_GT := a_inT (a_t_5 (List.mem_of_getElem? (i := 70) (by decide +kernel))) rfl
theorem k_1031 : Cond.codeWith ({ cls := "ShareTicketsLaw", name := "submit", desc := "(LShareTickets;II[J)I" } : MethodName) method_17_code (5 : Nat) (Option.some ClassFile.FieldType.int) [((0 : Nat), (10 : Nat), (13 : Nat), (28 : Nat)), ((0 : Nat), (10 : Nat), (17 : Nat), (19 : Nat)), ((0 : Nat), (10 : Nat), (21 : Nat), (13 : Nat))] ∈ a_GT := a_inT (a_t_5 (List.mem_of_getElem? (i := 71) (by decide +kernel))) rfl
theorem k_1032 : Cond.methodLink "ShareTicketsLaw" (65 : Nat) ({ cls := "ShareTickets", name := "submit", desc := "(II)I" } : MethodName) ∈ a_GT := a_inT (a_t_5 (List.mem_of_getElem? (i := 72) (by decide +kernel))) rfl
theorem k_1033 : Cond.instanceMethod ({ cls := "ShareTickets", name := "submit", desc := "(II)I" } : MethodName) ∈ a_GT := a_inT (a_t_5 (List.mem_of_getElem? (i := 73) (by decide +kernel))) rfl
theorem k_1034 : Cond.selects "ShareTickets" ({ cls := "ShareTickets", name := "submit", desc := "(II)I" } : MethodName) ({ cls := "ShareTickets", name := "submit", desc := "(II)I" } : MethodName) ∈ a_GT := a_inT (a_t_5 (List.mem_of_getElem? (i := 74) (by decide +kernel))) rfl
theorem k_1035 : Cond.code ({ cls := "ShareTickets", name := "submit", desc := "(II)I" } : MethodName) prog_1_method_17_code (3 : Nat) (Option.some ClassFile.FieldType.int) ∈ a_GT := a_inT (a_t_5 (List.mem_of_getElem? (i := 75) (by decide +kernel))) rfl
theorem k_1036 : Cond.methodLink "ShareTickets" (299 : Nat) ({ cls := "ShareTickets$Jobs", name := "isFull", desc := "()Z" } : MethodName) ∈ a_GT := a_inT (a_t_5 (List.mem_of_getElem? (i := 76) (by decide +kernel))) rfl
theorem s_1037 : Cond.stringRef "ShareTickets" (300 : Nat) "no more jobs can be made" ∈ tables_1 := a_t_5 (List.mem_of_getElem? (i := 77) (by decide +kernel))
theorem k_1038 : Cond.methodLink "ShareTickets" (302 : Nat) ({ cls := "ShareTickets$Jobs", name := "add", desc := "(II)V" } : MethodName) ∈ a_GT := a_inT (a_t_5 (List.mem_of_getElem? (i := 78) (by decide +kernel))) rfl
theorem k_1039 : Cond.methodLink "ShareTicketsLaw" (160 : Nat) ({ cls := "ShareTicketsLaw", name := "cancel", desc := "(LShareTickets;I[J)I" } : MethodName) ∈ a_GT := a_inT (a_t_5 (List.mem_of_getElem? (i := 79) (by decide +kernel))) rfl
theorem k_1040 : Cond.static ({ cls := "ShareTicketsLaw", name := "cancel", desc := "(LShareTickets;I[J)I" } : MethodName) ∈ a_GT := a_inT (a_t_5 (List.mem_of_getElem? (i := 80) (by decide +kernel))) rfl
theorem k_1041 : Cond.codeWith ({ cls := "ShareTicketsLaw", name := "cancel", desc := "(LShareTickets;I[J)I" } : MethodName) method_18_code (4 : Nat) (Option.some ClassFile.FieldType.int) [((0 : Nat), (9 : Nat), (12 : Nat), (28 : Nat)), ((0 : Nat), (9 : Nat), (15 : Nat), (13 : Nat))] ∈ a_GT := a_inT (a_t_5 (List.mem_of_getElem? (i := 81) (by decide +kernel))) rfl
theorem k_1042 : Cond.methodLink "ShareTicketsLaw" (68 : Nat) ({ cls := "ShareTickets", name := "cancel", desc := "(I)I" } : MethodName) ∈ a_GT := a_inT (a_t_5 (List.mem_of_getElem? (i := 82) (by decide +kernel))) rfl
theorem k_1043 : Cond.instanceMethod ({ cls := "ShareTickets", name := "cancel", desc := "(I)I" } : MethodName) ∈ a_GT := a_inT (a_t_5 (List.mem_of_getElem? (i := 83) (by decide +kernel))) rfl
theorem k_1044 : Cond.selects "ShareTickets" ({ cls := "ShareTickets", name := "cancel", desc := "(I)I" } : MethodName) ({ cls := "ShareTickets", name := "cancel", desc := "(I)I" } : MethodName) ∈ a_GT := a_inT (a_t_5 (List.mem_of_getElem? (i := 84) (by decide +kernel))) rfl
theorem k_1045 : Cond.code ({ cls := "ShareTickets", name := "cancel", desc := "(I)I" } : MethodName) prog_1_method_18_code (2 : Nat) (Option.some ClassFile.FieldType.int) ∈ a_GT := a_inT (a_t_5 (List.mem_of_getElem? (i := 85) (by decide +kernel))) rfl
theorem k_1046 : Cond.methodLink "ShareTickets" (303 : Nat) ({ cls := "ShareTickets", name := "needOpen", desc := "(I)V" } : MethodName) ∈ a_GT := a_inT (a_t_5 (List.mem_of_getElem? (i := 86) (by decide +kernel))) rfl
theorem k_1048 : Cond.instanceMethod ({ cls := "ShareTickets", name := "needOpen", desc := "(I)V" } : MethodName) ∈ a_GT := a_inT (a_t_5 (List.mem_of_getElem? (i := 88) (by decide +kernel))) rfl
theorem k_1049 : Cond.code ({ cls := "ShareTickets", name := "needOpen", desc := "(I)V" } : MethodName) prog_1_method_34_code (2 : Nat) (Option.none : Option ClassFile.FieldType) ∈ a_GT := a_inT (a_t_5 (List.mem_of_getElem? (i := 89) (by decide +kernel))) rfl
theorem k_1050 : Cond.methodLink "ShareTickets" (372 : Nat) ({ cls := "ShareTickets$Jobs", name := "isOpen", desc := "(I)Z" } : MethodName) ∈ a_GT := a_inT (a_t_5 (List.mem_of_getElem? (i := 90) (by decide +kernel))) rfl
theorem k_1051 : Cond.instanceMethod ({ cls := "ShareTickets$Jobs", name := "isOpen", desc := "(I)Z" } : MethodName) ∈ a_GT := a_inT (a_t_5 (List.mem_of_getElem? (i := 91) (by decide +kernel))) rfl
theorem k_1052 : Cond.selects "ShareTickets$Jobs" ({ cls := "ShareTickets$Jobs", name := "isOpen", desc := "(I)Z" } : MethodName) ({ cls := "ShareTickets$Jobs", name := "isOpen", desc := "(I)Z" } : MethodName) ∈ a_GT := a_inT (a_t_5 (List.mem_of_getElem? (i := 92) (by decide +kernel))) rfl
theorem k_1053 : Cond.code ({ cls := "ShareTickets$Jobs", name := "isOpen", desc := "(I)Z" } : MethodName) prog_3_method_6_code (2 : Nat) (Option.some ClassFile.FieldType.boolean) ∈ a_GT := a_inT (a_t_5 (List.mem_of_getElem? (i := 93) (by decide +kernel))) rfl
theorem s_1054 : Cond.stringRef "ShareTickets" (375 : Nat) "the job is finished or cancelled" ∈ tables_1 := a_t_5 (List.mem_of_getElem? (i := 94) (by decide +kernel))
theorem k_1055 : Cond.methodLink "ShareTickets" (306 : Nat) ({ cls := "ShareTickets$Jobs", name := "end", desc := "(III)V" } : MethodName) ∈ a_GT := a_inT (a_t_5 (List.mem_of_getElem? (i := 95) (by decide +kernel))) rfl
theorem k_1056 : Cond.instanceMethod ({ cls := "ShareTickets$Jobs", name := "end", desc := "(III)V" } : MethodName) ∈ a_GT := a_inT (a_t_5 (List.mem_of_getElem? (i := 96) (by decide +kernel))) rfl
theorem k_1057 : Cond.selects "ShareTickets$Jobs" ({ cls := "ShareTickets$Jobs", name := "end", desc := "(III)V" } : MethodName) ({ cls := "ShareTickets$Jobs", name := "end", desc := "(III)V" } : MethodName) ∈ a_GT := a_inT (a_t_5 (List.mem_of_getElem? (i := 97) (by decide +kernel))) rfl
theorem k_1058 : Cond.code ({ cls := "ShareTickets$Jobs", name := "end", desc := "(III)V" } : MethodName) prog_3_method_13_code (4 : Nat) (Option.none : Option ClassFile.FieldType) ∈ a_GT := a_inT (a_t_5 (List.mem_of_getElem? (i := 98) (by decide +kernel))) rfl
theorem k_1059 : Cond.methodLink "ShareTicketsLaw" (163 : Nat) ({ cls := "ShareTicketsLaw", name := "setUp", desc := "(LShareTickets;IZ[J)I" } : MethodName) ∈ a_GT := a_inT (a_t_5 (List.mem_of_getElem? (i := 99) (by decide +kernel))) rfl
theorem k_1060 : Cond.static ({ cls := "ShareTicketsLaw", name := "setUp", desc := "(LShareTickets;IZ[J)I" } : MethodName) ∈ a_GT := a_inT (a_t_5 (List.mem_of_getElem? (i := 100) (by decide +kernel))) rfl
theorem k_1061 : Cond.codeWith ({ cls := "ShareTicketsLaw", name := "setUp", desc := "(LShareTickets;IZ[J)I" } : MethodName) method_19_code (5 : Nat) (Option.some ClassFile.FieldType.int) [((0 : Nat), (10 : Nat), (13 : Nat), (28 : Nat))] ∈ a_GT := a_inT (a_t_5 (List.mem_of_getElem? (i := 101) (by decide +kernel))) rfl
theorem k_1062 : Cond.methodLink "ShareTicketsLaw" (71 : Nat) ({ cls := "ShareTickets", name := "setUp", desc := "(IZ)I" } : MethodName) ∈ a_GT := a_inT (a_t_5 (List.mem_of_getElem? (i := 102) (by decide +kernel))) rfl
theorem k_1063 : Cond.instanceMethod ({ cls := "ShareTickets", name := "setUp", desc := "(IZ)I" } : MethodName) ∈ a_GT := a_inT (a_t_5 (List.mem_of_getElem? (i := 103) (by decide +kernel))) rfl
theorem k_1064 : Cond.selects "ShareTickets" ({ cls := "ShareTickets", name := "setUp", desc := "(IZ)I" } : MethodName) ({ cls := "ShareTickets", name := "setUp", desc := "(IZ)I" } : MethodName) ∈ a_GT := a_inT (a_t_5 (List.mem_of_getElem? (i := 104) (by decide +kernel))) rfl
theorem k_1065 : Cond.code ({ cls := "ShareTickets", name := "setUp", desc := "(IZ)I" } : MethodName) prog_1_method_19_code (4 : Nat) (Option.some ClassFile.FieldType.int) ∈ a_GT := a_inT (a_t_5 (List.mem_of_getElem? (i := 105) (by decide +kernel))) rfl
theorem k_1066 : Cond.methodLink "ShareTickets" (309 : Nat) ({ cls := "ShareTickets$Place", name := "switchMachine", desc := "(IZ)V" } : MethodName) ∈ a_GT := a_inT (a_t_5 (List.mem_of_getElem? (i := 106) (by decide +kernel))) rfl
theorem k_1067 : Cond.instanceMethod ({ cls := "ShareTickets$Place", name := "switchMachine", desc := "(IZ)V" } : MethodName) ∈ a_GT := a_inT (a_t_5 (List.mem_of_getElem? (i := 107) (by decide +kernel))) rfl
theorem k_1068 : Cond.selects "ShareTickets$Place" ({ cls := "ShareTickets$Place", name := "switchMachine", desc := "(IZ)V" } : MethodName) ({ cls := "ShareTickets$Place", name := "switchMachine", desc := "(IZ)V" } : MethodName) ∈ a_GT := a_inT (a_t_5 (List.mem_of_getElem? (i := 108) (by decide +kernel))) rfl
theorem k_1069 : Cond.code ({ cls := "ShareTickets$Place", name := "switchMachine", desc := "(IZ)V" } : MethodName) prog_7_method_15_code (4 : Nat) (Option.none : Option ClassFile.FieldType) ∈ a_GT := a_inT (a_t_5 (List.mem_of_getElem? (i := 109) (by decide +kernel))) rfl
theorem k_1070 : Cond.methodLink "ShareTickets$Place" (173 : Nat) ({ cls := "ShareTickets$Machines", name := "turn", desc := "(IZ)V" } : MethodName) ∈ a_GT := a_inT (a_t_5 (List.mem_of_getElem? (i := 110) (by decide +kernel))) rfl
theorem k_1071 : Cond.instanceMethod ({ cls := "ShareTickets$Machines", name := "turn", desc := "(IZ)V" } : MethodName) ∈ a_GT := a_inT (a_t_5 (List.mem_of_getElem? (i := 111) (by decide +kernel))) rfl
theorem k_1072 : Cond.selects "ShareTickets$Machines" ({ cls := "ShareTickets$Machines", name := "turn", desc := "(IZ)V" } : MethodName) ({ cls := "ShareTickets$Machines", name := "turn", desc := "(IZ)V" } : MethodName) ∈ a_GT := a_inT (a_t_5 (List.mem_of_getElem? (i := 112) (by decide +kernel))) rfl
theorem k_1073 : Cond.code ({ cls := "ShareTickets$Machines", name := "turn", desc := "(IZ)V" } : MethodName) prog_5_method_8_code (3 : Nat) (Option.none : Option ClassFile.FieldType) ∈ a_GT := a_inT (a_t_5 (List.mem_of_getElem? (i := 113) (by decide +kernel))) rfl
theorem k_1074 : Cond.methodLink "ShareTickets$Place" (167 : Nat) ({ cls := "ShareTickets$Place", name := "interruptJob", desc := "(I)V" } : MethodName) ∈ a_GT := a_inT (a_t_5 (List.mem_of_getElem? (i := 114) (by decide +kernel))) rfl
theorem k_1076 : Cond.instanceMethod ({ cls := "ShareTickets$Place", name := "interruptJob", desc := "(I)V" } : MethodName) ∈ a_GT := a_inT (a_t_5 (List.mem_of_getElem? (i := 116) (by decide +kernel))) rfl
theorem k_1077 : Cond.code ({ cls := "ShareTickets$Place", name := "interruptJob", desc := "(I)V" } : MethodName) prog_7_method_11_code (3 : Nat) (Option.none : Option ClassFile.FieldType) ∈ a_GT := a_inT (a_t_5 (List.mem_of_getElem? (i := 117) (by decide +kernel))) rfl
theorem k_1078 : Cond.methodLink "ShareTickets$Place" (151 : Nat) ({ cls := "ShareTickets$Place", name := "keptWork", desc := "(I)I" } : MethodName) ∈ a_GT := a_inT (a_t_5 (List.mem_of_getElem? (i := 118) (by decide +kernel))) rfl
theorem k_1080 : Cond.instanceMethod ({ cls := "ShareTickets$Place", name := "keptWork", desc := "(I)I" } : MethodName) ∈ a_GT := a_inT (a_t_5 (List.mem_of_getElem? (i := 120) (by decide +kernel))) rfl
theorem k_1081 : Cond.code ({ cls := "ShareTickets$Place", name := "keptWork", desc := "(I)I" } : MethodName) prog_7_method_12_code (3 : Nat) (Option.some ClassFile.FieldType.int) ∈ a_GT := a_inT (a_t_5 (List.mem_of_getElem? (i := 121) (by decide +kernel))) rfl
theorem k_1082 : Cond.methodLink "ShareTickets$Place" (158 : Nat) ({ cls := "ShareTickets$Jobs", name := "stop", desc := "(II)V" } : MethodName) ∈ a_GT := a_inT (a_t_5 (List.mem_of_getElem? (i := 122) (by decide +kernel))) rfl
theorem k_1083 : Cond.instanceMethod ({ cls := "ShareTickets$Jobs", name := "stop", desc := "(II)V" } : MethodName) ∈ a_GT := a_inT (a_t_5 (List.mem_of_getElem? (i := 123) (by decide +kernel))) rfl
theorem k_1084 : Cond.selects "ShareTickets$Jobs" ({ cls := "ShareTickets$Jobs", name := "stop", desc := "(II)V" } : MethodName) ({ cls := "ShareTickets$Jobs", name := "stop", desc := "(II)V" } : MethodName) ∈ a_GT := a_inT (a_t_5 (List.mem_of_getElem? (i := 124) (by decide +kernel))) rfl
theorem k_1085 : Cond.code ({ cls := "ShareTickets$Jobs", name := "stop", desc := "(II)V" } : MethodName) prog_3_method_12_code (3 : Nat) (Option.none : Option ClassFile.FieldType) ∈ a_GT := a_inT (a_t_5 (List.mem_of_getElem? (i := 125) (by decide +kernel))) rfl
theorem k_1086 : Cond.methodLink "ShareTicketsLaw" (167 : Nat) ({ cls := "ShareTicketsLaw", name := "set", desc := "(LShareTickets;II[J)I" } : MethodName) ∈ a_GT := a_inT (a_t_5 (List.mem_of_getElem? (i := 126) (by decide +kernel))) rfl
theorem k_1087 : Cond.static ({ cls := "ShareTicketsLaw", name := "set", desc := "(LShareTickets;II[J)I" } : MethodName) ∈ a_GT := a_inT (a_t_5 (List.mem_of_getElem? (i := 127) (by decide +kernel))) rfl
theorem k_1088 : Cond.codeWith ({ cls := "ShareTicketsLaw", name := "set", desc := "(LShareTickets;II[J)I" } : MethodName) method_20_code (5 : Nat) (Option.some ClassFile.FieldType.int) [((0 : Nat), (10 : Nat), (13 : Nat), (19 : Nat))] ∈ a_GT := a_inT (a_t_5 (List.mem_of_getElem? (i := 128) (by decide +kernel))) rfl
theorem k_1089 : Cond.methodLink "ShareTicketsLaw" (75 : Nat) ({ cls := "ShareTickets", name := "set", desc := "(II)I" } : MethodName) ∈ a_GT := a_inT (a_t_5 (List.mem_of_getElem? (i := 129) (by decide +kernel))) rfl
theorem k_1090 : Cond.instanceMethod ({ cls := "ShareTickets", name := "set", desc := "(II)I" } : MethodName) ∈ a_GT := a_inT (a_t_5 (List.mem_of_getElem? (i := 130) (by decide +kernel))) rfl
theorem k_1091 : Cond.selects "ShareTickets" ({ cls := "ShareTickets", name := "set", desc := "(II)I" } : MethodName) ({ cls := "ShareTickets", name := "set", desc := "(II)I" } : MethodName) ∈ a_GT := a_inT (a_t_5 (List.mem_of_getElem? (i := 131) (by decide +kernel))) rfl
theorem k_1092 : Cond.code ({ cls := "ShareTickets", name := "set", desc := "(II)I" } : MethodName) prog_1_method_20_code (4 : Nat) (Option.some ClassFile.FieldType.int) ∈ a_GT := a_inT (a_t_5 (List.mem_of_getElem? (i := 132) (by decide +kernel))) rfl
theorem s_1093 : Cond.stringRef "ShareTickets" (313 : Nat) "no such setting" ∈ tables_1 := a_t_5 (List.mem_of_getElem? (i := 133) (by decide +kernel))
theorem k_1094 : Cond.fieldLink "ShareTickets" (315 : Nat) "ShareTickets" "LEAST_SETTING" "[I" ∈ a_GT := a_inT (a_t_5 (List.mem_of_getElem? (i := 134) (by decide +kernel))) rfl
theorem k_1095 : Cond.fieldLink "ShareTickets" (318 : Nat) "ShareTickets" "GREATEST_SETTING" "[I" ∈ a_GT := a_inT (a_t_5 (List.mem_of_getElem? (i := 135) (by decide +kernel))) rfl
theorem k_1096 : Cond.methodLink "ShareTicketsLaw" (170 : Nat) ({ cls := "ShareTicketsLaw", name := "tick", desc := "(LShareTickets;I[J)I" } : MethodName) ∈ a_GT := a_inT (a_t_5 (List.mem_of_getElem? (i := 136) (by decide +kernel))) rfl
theorem k_1097 : Cond.static ({ cls := "ShareTicketsLaw", name := "tick", desc := "(LShareTickets;I[J)I" } : MethodName) ∈ a_GT := a_inT (a_t_5 (List.mem_of_getElem? (i := 137) (by decide +kernel))) rfl
theorem k_1098 : Cond.codeWith ({ cls := "ShareTicketsLaw", name := "tick", desc := "(LShareTickets;I[J)I" } : MethodName) method_21_code (4 : Nat) (Option.some ClassFile.FieldType.int) [((0 : Nat), (9 : Nat), (12 : Nat), (19 : Nat)), ((0 : Nat), (9 : Nat), (15 : Nat), (13 : Nat))] ∈ a_GT := a_inT (a_t_5 (List.mem_of_getElem? (i := 138) (by decide +kernel))) rfl
theorem k_1099 : Cond.methodLink "ShareTicketsLaw" (78 : Nat) ({ cls := "ShareTickets", name := "tick", desc := "(I)I" } : MethodName) ∈ a_GT := a_inT (a_t_5 (List.mem_of_getElem? (i := 139) (by decide +kernel))) rfl
theorem k_1100 : Cond.instanceMethod ({ cls := "ShareTickets", name := "tick", desc := "(I)I" } : MethodName) ∈ a_GT := a_inT (a_t_5 (List.mem_of_getElem? (i := 140) (by decide +kernel))) rfl
theorem k_1101 : Cond.selects "ShareTickets" ({ cls := "ShareTickets", name := "tick", desc := "(I)I" } : MethodName) ({ cls := "ShareTickets", name := "tick", desc := "(I)I" } : MethodName) ∈ a_GT := a_inT (a_t_5 (List.mem_of_getElem? (i := 141) (by decide +kernel))) rfl
theorem k_1102 : Cond.code ({ cls := "ShareTickets", name := "tick", desc := "(I)I" } : MethodName) prog_1_method_21_code (4 : Nat) (Option.some ClassFile.FieldType.int) ∈ a_GT := a_inT (a_t_5 (List.mem_of_getElem? (i := 142) (by decide +kernel))) rfl
theorem s_1103 : Cond.stringRef "ShareTickets" (321 : Nat) "time ends before that" ∈ tables_1 := a_t_5 (List.mem_of_getElem? (i := 143) (by decide +kernel))
theorem k_1104 : Cond.methodLink "ShareTickets" (323 : Nat) ({ cls := "ShareTickets$Place", name := "passTick", desc := "()V" } : MethodName) ∈ a_GT := a_inT (a_t_5 (List.mem_of_getElem? (i := 144) (by decide +kernel))) rfl
theorem k_1105 : Cond.instanceMethod ({ cls := "ShareTickets$Place", name := "passTick", desc := "()V" } : MethodName) ∈ a_GT := a_inT (a_t_5 (List.mem_of_getElem? (i := 145) (by decide +kernel))) rfl
theorem k_1106 : Cond.selects "ShareTickets$Place" ({ cls := "ShareTickets$Place", name := "passTick", desc := "()V" } : MethodName) ({ cls := "ShareTickets$Place", name := "passTick", desc := "()V" } : MethodName) ∈ a_GT := a_inT (a_t_5 (List.mem_of_getElem? (i := 146) (by decide +kernel))) rfl
theorem k_1107 : Cond.code ({ cls := "ShareTickets$Place", name := "passTick", desc := "()V" } : MethodName) prog_7_method_16_code (2 : Nat) (Option.none : Option ClassFile.FieldType) ∈ a_GT := a_inT (a_t_5 (List.mem_of_getElem? (i := 147) (by decide +kernel))) rfl
theorem k_1108 : Cond.methodLink "ShareTickets$Place" (177 : Nat) ({ cls := "ShareTickets$Place", name := "workOn", desc := "()V" } : MethodName) ∈ a_GT := a_inT (a_t_5 (List.mem_of_getElem? (i := 148) (by decide +kernel))) rfl
theorem k_1110 : Cond.instanceMethod ({ cls := "ShareTickets$Place", name := "workOn", desc := "()V" } : MethodName) ∈ a_GT := a_inT (a_t_5 (List.mem_of_getElem? (i := 150) (by decide +kernel))) rfl
theorem k_1111 : Cond.code ({ cls := "ShareTickets$Place", name := "workOn", desc := "()V" } : MethodName) prog_7_method_17_code (2 : Nat) (Option.none : Option ClassFile.FieldType) ∈ a_GT := a_inT (a_t_5 (List.mem_of_getElem? (i := 151) (by decide +kernel))) rfl
theorem k_1112 : Cond.methodLink "ShareTickets$Place" (189 : Nat) ({ cls := "ShareTickets$Tree", name := "addUse", desc := "(I)V" } : MethodName) ∈ a_GT := a_inT (a_t_5 (List.mem_of_getElem? (i := 152) (by decide +kernel))) rfl
theorem k_1113 : Cond.instanceMethod ({ cls := "ShareTickets$Tree", name := "addUse", desc := "(I)V" } : MethodName) ∈ a_GT := a_inT (a_t_5 (List.mem_of_getElem? (i := 153) (by decide +kernel))) rfl
theorem k_1114 : Cond.selects "ShareTickets$Tree" ({ cls := "ShareTickets$Tree", name := "addUse", desc := "(I)V" } : MethodName) ({ cls := "ShareTickets$Tree", name := "addUse", desc := "(I)V" } : MethodName) ∈ a_GT := a_inT (a_t_5 (List.mem_of_getElem? (i := 154) (by decide +kernel))) rfl
theorem k_1115 : Cond.code ({ cls := "ShareTickets$Tree", name := "addUse", desc := "(I)V" } : MethodName) prog_10_method_14_code (2 : Nat) (Option.none : Option ClassFile.FieldType) ∈ a_GT := a_inT (a_t_5 (List.mem_of_getElem? (i := 155) (by decide +kernel))) rfl
theorem k_1116 : Cond.methodLink "ShareTickets$Place" (195 : Nat) ({ cls := "ShareTickets$Jobs", name := "end", desc := "(III)V" } : MethodName) ∈ a_GT := a_inT (a_t_5 (List.mem_of_getElem? (i := 156) (by decide +kernel))) rfl
theorem k_1117 : Cond.methodLink "ShareTickets$Place" (180 : Nat) ({ cls := "ShareTickets$Tree", name := "halveUses", desc := "()V" } : MethodName) ∈ a_GT := a_inT (a_t_5 (List.mem_of_getElem? (i := 157) (by decide +kernel))) rfl
theorem k_1118 : Cond.instanceMethod ({ cls := "ShareTickets$Tree", name := "halveUses", desc := "()V" } : MethodName) ∈ a_GT := a_inT (a_t_5 (List.mem_of_getElem? (i := 158) (by decide +kernel))) rfl
theorem k_1119 : Cond.selects "ShareTickets$Tree" ({ cls := "ShareTickets$Tree", name := "halveUses", desc := "()V" } : MethodName) ({ cls := "ShareTickets$Tree", name := "halveUses", desc := "()V" } : MethodName) ∈ a_GT := a_inT (a_t_5 (List.mem_of_getElem? (i := 159) (by decide +kernel))) rfl
theorem k_1120 : Cond.code ({ cls := "ShareTickets$Tree", name := "halveUses", desc := "()V" } : MethodName) prog_10_method_15_code (2 : Nat) (Option.none : Option ClassFile.FieldType) ∈ a_GT := a_inT (a_t_5 (List.mem_of_getElem? (i := 160) (by decide +kernel))) rfl
theorem k_1121 : Cond.methodLink "ShareTickets$Place" (183 : Nat) ({ cls := "ShareTickets$Loans", name := "dropOver", desc := "(I)V" } : MethodName) ∈ a_GT := a_inT (a_t_5 (List.mem_of_getElem? (i := 161) (by decide +kernel))) rfl
theorem k_1122 : Cond.instanceMethod ({ cls := "ShareTickets$Loans", name := "dropOver", desc := "(I)V" } : MethodName) ∈ a_GT := a_inT (a_t_5 (List.mem_of_getElem? (i := 162) (by decide +kernel))) rfl
theorem k_1123 : Cond.selects "ShareTickets$Loans" ({ cls := "ShareTickets$Loans", name := "dropOver", desc := "(I)V" } : MethodName) ({ cls := "ShareTickets$Loans", name := "dropOver", desc := "(I)V" } : MethodName) ∈ a_GT := a_inT (a_t_5 (List.mem_of_getElem? (i := 163) (by decide +kernel))) rfl
theorem k_1124 : Cond.code ({ cls := "ShareTickets$Loans", name := "dropOver", desc := "(I)V" } : MethodName) prog_4_method_11_code (4 : Nat) (Option.none : Option ClassFile.FieldType) ∈ a_GT := a_inT (a_t_5 (List.mem_of_getElem? (i := 164) (by decide +kernel))) rfl
theorem k_1125 : Cond.methodLink "ShareTickets$Place" (186 : Nat) ({ cls := "ShareTickets$Place", name := "preemptJobs", desc := "()V" } : MethodName) ∈ a_GT := a_inT (a_t_5 (List.mem_of_getElem? (i := 165) (by decide +kernel))) rfl
theorem k_1127 : Cond.instanceMethod ({ cls := "ShareTickets$Place", name := "preemptJobs", desc := "()V" } : MethodName) ∈ a_GT := a_inT (a_t_5 (List.mem_of_getElem? (i := 167) (by decide +kernel))) rfl
theorem k_1128 : Cond.code ({ cls := "ShareTickets$Place", name := "preemptJobs", desc := "()V" } : MethodName) prog_7_method_13_code (4 : Nat) (Option.none : Option ClassFile.FieldType) ∈ a_GT := a_inT (a_t_5 (List.mem_of_getElem? (i := 168) (by decide +kernel))) rfl
theorem k_1129 : Cond.methodLink "ShareTickets$Place" (161 : Nat) ({ cls := "ShareTickets$Place", name := "leastRunning", desc := "(I)I" } : MethodName) ∈ a_GT := a_inT (a_t_5 (List.mem_of_getElem? (i := 169) (by decide +kernel))) rfl
theorem k_1130 : Cond.methodLink "ShareTickets$Place" (164 : Nat) ({ cls := "ShareTickets$Place", name := "outweighs", desc := "(II)Z" } : MethodName) ∈ a_GT := a_inT (a_t_5 (List.mem_of_getElem? (i := 170) (by decide +kernel))) rfl
theorem k_1132 : Cond.instanceMethod ({ cls := "ShareTickets$Place", name := "outweighs", desc := "(II)Z" } : MethodName) ∈ a_GT := a_inT (a_t_5 (List.mem_of_getElem? (i := 172) (by decide +kernel))) rfl
theorem k_1133 : Cond.code ({ cls := "ShareTickets$Place", name := "outweighs", desc := "(II)Z" } : MethodName) prog_7_method_14_code (7 : Nat) (Option.some ClassFile.FieldType.boolean) ∈ a_GT := a_inT (a_t_5 (List.mem_of_getElem? (i := 173) (by decide +kernel))) rfl
theorem k_1134 : Cond.constantLong "ShareTickets$Place" (171 : Nat) (100 : Int64) ∈ a_GT := a_inT (a_t_5 (List.mem_of_getElem? (i := 174) (by decide +kernel))) rfl
theorem k_1135 : Cond.methodLink "ShareTicketsLaw" (173 : Nat) ({ cls := "ShareTicketsLaw", name := "finishedIn", desc := "(LShareTickets;I[J)I" } : MethodName) ∈ a_GT := a_inT (a_t_5 (List.mem_of_getElem? (i := 175) (by decide +kernel))) rfl
theorem k_1136 : Cond.static ({ cls := "ShareTicketsLaw", name := "finishedIn", desc := "(LShareTickets;I[J)I" } : MethodName) ∈ a_GT := a_inT (a_t_5 (List.mem_of_getElem? (i := 176) (by decide +kernel))) rfl
theorem k_1137 : Cond.codeWith ({ cls := "ShareTicketsLaw", name := "finishedIn", desc := "(LShareTickets;I[J)I" } : MethodName) method_22_code (4 : Nat) (Option.some ClassFile.FieldType.int) [((0 : Nat), (9 : Nat), (12 : Nat), (28 : Nat)), ((0 : Nat), (9 : Nat), (15 : Nat), (13 : Nat))] ∈ a_GT := a_inT (a_t_5 (List.mem_of_getElem? (i := 177) (by decide +kernel))) rfl
theorem k_1138 : Cond.methodLink "ShareTicketsLaw" (81 : Nat) ({ cls := "ShareTickets", name := "finishedIn", desc := "(I)I" } : MethodName) ∈ a_GT := a_inT (a_t_5 (List.mem_of_getElem? (i := 178) (by decide +kernel))) rfl
theorem k_1139 : Cond.instanceMethod ({ cls := "ShareTickets", name := "finishedIn", desc := "(I)I" } : MethodName) ∈ a_GT := a_inT (a_t_5 (List.mem_of_getElem? (i := 179) (by decide +kernel))) rfl
theorem k_1140 : Cond.selects "ShareTickets" ({ cls := "ShareTickets", name := "finishedIn", desc := "(I)I" } : MethodName) ({ cls := "ShareTickets", name := "finishedIn", desc := "(I)I" } : MethodName) ∈ a_GT := a_inT (a_t_5 (List.mem_of_getElem? (i := 180) (by decide +kernel))) rfl
theorem k_1141 : Cond.code ({ cls := "ShareTickets", name := "finishedIn", desc := "(I)I" } : MethodName) prog_1_method_22_code (3 : Nat) (Option.some ClassFile.FieldType.int) ∈ a_GT := a_inT (a_t_5 (List.mem_of_getElem? (i := 181) (by decide +kernel))) rfl
theorem k_1142 : Cond.methodLink "ShareTicketsLaw" (176 : Nat) ({ cls := "ShareTicketsLaw", name := "ahead", desc := "(LShareTickets;II[J)I" } : MethodName) ∈ a_GT := a_inT (a_t_5 (List.mem_of_getElem? (i := 182) (by decide +kernel))) rfl
theorem k_1143 : Cond.static ({ cls := "ShareTicketsLaw", name := "ahead", desc := "(LShareTickets;II[J)I" } : MethodName) ∈ a_GT := a_inT (a_t_5 (List.mem_of_getElem? (i := 183) (by decide +kernel))) rfl
theorem k_1144 : Cond.codeWith ({ cls := "ShareTicketsLaw", name := "ahead", desc := "(LShareTickets;II[J)I" } : MethodName) method_23_code (5 : Nat) (Option.some ClassFile.FieldType.int) [((0 : Nat), (10 : Nat), (13 : Nat), (19 : Nat))] ∈ a_GT := a_inT (a_t_5 (List.mem_of_getElem? (i := 184) (by decide +kernel))) rfl
theorem k_1145 : Cond.methodLink "ShareTicketsLaw" (84 : Nat) ({ cls := "ShareTickets", name := "ahead", desc := "(II)I" } : MethodName) ∈ a_GT := a_inT (a_t_5 (List.mem_of_getElem? (i := 185) (by decide +kernel))) rfl
theorem k_1146 : Cond.instanceMethod ({ cls := "ShareTickets", name := "ahead", desc := "(II)I" } : MethodName) ∈ a_GT := a_inT (a_t_5 (List.mem_of_getElem? (i := 186) (by decide +kernel))) rfl
theorem k_1147 : Cond.selects "ShareTickets" ({ cls := "ShareTickets", name := "ahead", desc := "(II)I" } : MethodName) ({ cls := "ShareTickets", name := "ahead", desc := "(II)I" } : MethodName) ∈ a_GT := a_inT (a_t_5 (List.mem_of_getElem? (i := 187) (by decide +kernel))) rfl
theorem k_1148 : Cond.code ({ cls := "ShareTickets", name := "ahead", desc := "(II)I" } : MethodName) prog_1_method_23_code (4 : Nat) (Option.some ClassFile.FieldType.int) ∈ a_GT := a_inT (a_t_5 (List.mem_of_getElem? (i := 188) (by decide +kernel))) rfl
theorem k_1149 : Cond.methodLink "ShareTicketsLaw" (183 : Nat) ({ cls := "ShareTicketsLaw", name := "part", desc := "(LShareTickets;I[D)I" } : MethodName) ∈ a_GT := a_inT (a_t_5 (List.mem_of_getElem? (i := 189) (by decide +kernel))) rfl
theorem k_1150 : Cond.static ({ cls := "ShareTicketsLaw", name := "part", desc := "(LShareTickets;I[D)I" } : MethodName) ∈ a_GT := a_inT (a_t_5 (List.mem_of_getElem? (i := 190) (by decide +kernel))) rfl
theorem k_1151 : Cond.codeWith ({ cls := "ShareTicketsLaw", name := "part", desc := "(LShareTickets;I[D)I" } : MethodName) method_24_code (4 : Nat) (Option.some ClassFile.FieldType.int) [((0 : Nat), (9 : Nat), (12 : Nat), (28 : Nat)), ((0 : Nat), (9 : Nat), (15 : Nat), (63 : Nat))] ∈ a_GT := a_inT (a_t_5 (List.mem_of_getElem? (i := 191) (by decide +kernel))) rfl
theorem k_1152 : Cond.methodLink "ShareTicketsLaw" (87 : Nat) ({ cls := "ShareTickets", name := "part", desc := "(I)F" } : MethodName) ∈ a_GT := a_inT (a_t_5 (List.mem_of_getElem? (i := 192) (by decide +kernel))) rfl
theorem k_1153 : Cond.instanceMethod ({ cls := "ShareTickets", name := "part", desc := "(I)F" } : MethodName) ∈ a_GT := a_inT (a_t_5 (List.mem_of_getElem? (i := 193) (by decide +kernel))) rfl
theorem k_1154 : Cond.selects "ShareTickets" ({ cls := "ShareTickets", name := "part", desc := "(I)F" } : MethodName) ({ cls := "ShareTickets", name := "part", desc := "(I)F" } : MethodName) ∈ a_GT := a_inT (a_t_5 (List.mem_of_getElem? (i := 194) (by decide +kernel))) rfl
theorem k_1155 : Cond.code ({ cls := "ShareTickets", name := "part", desc := "(I)F" } : MethodName) prog_1_method_25_code (4 : Nat) (Option.some ClassFile.FieldType.float) ∈ a_GT := a_inT (a_t_5 (List.mem_of_getElem? (i := 195) (by decide +kernel))) rfl
theorem s_1156 : Cond.stringRef "ShareTickets" (337 : Nat) "nothing was used" ∈ tables_1 := a_t_5 (List.mem_of_getElem? (i := 196) (by decide +kernel))
theorem k_1157 : Cond.methodLink "ShareTicketsLaw" (195 : Nat) ({ cls := "ShareTicketsLaw", name := "writtenByte", desc := "(LShareTickets;I[J)I" } : MethodName) ∈ a_GT := a_inT (a_t_5 (List.mem_of_getElem? (i := 197) (by decide +kernel))) rfl
theorem k_1158 : Cond.static ({ cls := "ShareTicketsLaw", name := "writtenByte", desc := "(LShareTickets;I[J)I" } : MethodName) ∈ a_GT := a_inT (a_t_5 (List.mem_of_getElem? (i := 198) (by decide +kernel))) rfl
theorem k_1159 : Cond.codeWith ({ cls := "ShareTicketsLaw", name := "writtenByte", desc := "(LShareTickets;I[J)I" } : MethodName) method_25_code (4 : Nat) (Option.some ClassFile.FieldType.int) [((0 : Nat), (9 : Nat), (12 : Nat), (28 : Nat))] ∈ a_GT := a_inT (a_t_5 (List.mem_of_getElem? (i := 199) (by decide +kernel))) rfl
theorem k_1160 : Cond.methodLink "ShareTicketsLaw" (91 : Nat) ({ cls := "ShareTickets", name := "writtenByte", desc := "(I)I" } : MethodName) ∈ a_GT := a_inT (a_t_5 (List.mem_of_getElem? (i := 200) (by decide +kernel))) rfl
theorem k_1161 : Cond.instanceMethod ({ cls := "ShareTickets", name := "writtenByte", desc := "(I)I" } : MethodName) ∈ a_GT := a_inT (a_t_5 (List.mem_of_getElem? (i := 201) (by decide +kernel))) rfl
theorem k_1162 : Cond.selects "ShareTickets" ({ cls := "ShareTickets", name := "writtenByte", desc := "(I)I" } : MethodName) ({ cls := "ShareTickets", name := "writtenByte", desc := "(I)I" } : MethodName) ∈ a_GT := a_inT (a_t_5 (List.mem_of_getElem? (i := 202) (by decide +kernel))) rfl
theorem k_1163 : Cond.code ({ cls := "ShareTickets", name := "writtenByte", desc := "(I)I" } : MethodName) prog_1_method_28_code (2 : Nat) (Option.some ClassFile.FieldType.int) ∈ a_GT := a_inT (a_t_5 (List.mem_of_getElem? (i := 203) (by decide +kernel))) rfl
theorem s_1164 : Cond.stringRef "ShareTickets" (349 : Nat) "no such byte was written" ∈ tables_1 := a_t_5 (List.mem_of_getElem? (i := 204) (by decide +kernel))
theorem k_1165 : Cond.methodLink "ShareTicketsLaw" (198 : Nat) ({ cls := "ShareTicketsLaw", name := "undo", desc := "(LShareTickets;[J)I" } : MethodName) ∈ a_GT := a_inT (a_t_5 (List.mem_of_getElem? (i := 205) (by decide +kernel))) rfl
theorem k_1166 : Cond.static ({ cls := "ShareTicketsLaw", name := "undo", desc := "(LShareTickets;[J)I" } : MethodName) ∈ a_GT := a_inT (a_t_5 (List.mem_of_getElem? (i := 206) (by decide +kernel))) rfl
theorem k_1167 : Cond.codeWith ({ cls := "ShareTicketsLaw", name := "undo", desc := "(LShareTickets;[J)I" } : MethodName) method_26_code (3 : Nat) (Option.some ClassFile.FieldType.int) [((0 : Nat), (8 : Nat), (11 : Nat), (13 : Nat))] ∈ a_GT := a_inT (a_t_5 (List.mem_of_getElem? (i := 207) (by decide +kernel))) rfl
theorem k_1168 : Cond.methodLink "ShareTicketsLaw" (94 : Nat) ({ cls := "ShareTickets", name := "undo", desc := "()I" } : MethodName) ∈ a_GT := a_inT (a_t_5 (List.mem_of_getElem? (i := 208) (by decide +kernel))) rfl
theorem k_1169 : Cond.instanceMethod ({ cls := "ShareTickets", name := "undo", desc := "()I" } : MethodName) ∈ a_GT := a_inT (a_t_5 (List.mem_of_getElem? (i := 209) (by decide +kernel))) rfl
theorem k_1170 : Cond.selects "ShareTickets" ({ cls := "ShareTickets", name := "undo", desc := "()I" } : MethodName) ({ cls := "ShareTickets", name := "undo", desc := "()I" } : MethodName) ∈ a_GT := a_inT (a_t_5 (List.mem_of_getElem? (i := 210) (by decide +kernel))) rfl
theorem k_1171 : Cond.code ({ cls := "ShareTickets", name := "undo", desc := "()I" } : MethodName) prog_1_method_29_code (1 : Nat) (Option.some ClassFile.FieldType.int) ∈ a_GT := a_inT (a_t_5 (List.mem_of_getElem? (i := 211) (by decide +kernel))) rfl
theorem s_1172 : Cond.stringRef "ShareTickets" (356 : Nat) "no change to undo" ∈ tables_1 := a_t_5 (List.mem_of_getElem? (i := 212) (by decide +kernel))
theorem k_1173 : Cond.methodLink "ShareTickets" (358 : Nat) ({ cls := "ShareTickets$History", name := "restore", desc := "(LShareTickets$Place;)V" } : MethodName) ∈ a_GT := a_inT (a_t_5 (List.mem_of_getElem? (i := 213) (by decide +kernel))) rfl
theorem k_1174 : Cond.instanceMethod ({ cls := "ShareTickets$History", name := "restore", desc := "(LShareTickets$Place;)V" } : MethodName) ∈ a_GT := a_inT (a_t_5 (List.mem_of_getElem? (i := 214) (by decide +kernel))) rfl
theorem k_1175 : Cond.selects "ShareTickets$History" ({ cls := "ShareTickets$History", name := "restore", desc := "(LShareTickets$Place;)V" } : MethodName) ({ cls := "ShareTickets$History", name := "restore", desc := "(LShareTickets$Place;)V" } : MethodName) ∈ a_GT := a_inT (a_t_5 (List.mem_of_getElem? (i := 215) (by decide +kernel))) rfl
theorem k_1176 : Cond.code ({ cls := "ShareTickets$History", name := "restore", desc := "(LShareTickets$Place;)V" } : MethodName) prog_2_method_3_code (2 : Nat) (Option.none : Option ClassFile.FieldType) ∈ a_GT := a_inT (a_t_5 (List.mem_of_getElem? (i := 216) (by decide +kernel))) rfl
theorem k_1177 : Cond.classLink "ShareTicketsLaw" (98 : Nat) "ShareTicketsModel" ∈ a_GT := a_inT (a_t_5 (List.mem_of_getElem? (i := 217) (by decide +kernel))) rfl
theorem k_1178 : Cond.instantiable "ShareTicketsModel" (20 : Nat) ∈ a_GT := a_inT (a_t_5 (List.mem_of_getElem? (i := 218) (by decide +kernel))) rfl
theorem k_1179 : Cond.methodLink "ShareTicketsLaw" (100 : Nat) ({ cls := "ShareTicketsModel", name := "<init>", desc := "()V" } : MethodName) ∈ a_GT := a_inT (a_t_5 (List.mem_of_getElem? (i := 219) (by decide +kernel))) rfl
theorem k_1180 : Cond.instanceMethod ({ cls := "ShareTicketsModel", name := "<init>", desc := "()V" } : MethodName) ∈ a_GT := a_inT (a_t_5 (List.mem_of_getElem? (i := 220) (by decide +kernel))) rfl
theorem k_1181 : Cond.code ({ cls := "ShareTicketsModel", name := "<init>", desc := "()V" } : MethodName) prog_12_method_1_code (1 : Nat) (Option.none : Option ClassFile.FieldType) ∈ a_GT := a_inT (a_t_5 (List.mem_of_getElem? (i := 221) (by decide +kernel))) rfl
theorem k_1182 : Cond.methodLink "ShareTicketsModel" (1 : Nat) ({ cls := "java/lang/Object", name := "<init>", desc := "()V" } : MethodName) ∈ a_GT := a_inT (a_t_5 (List.mem_of_getElem? (i := 222) (by decide +kernel))) rfl
theorem k_1183 : Cond.methodLink "ShareTicketsModel" (35 : Nat) ({ cls := "ShareTicketsModel", name := "begins", desc := "()V" } : MethodName) ∈ a_GT := a_inT (a_t_5 (List.mem_of_getElem? (i := 223) (by decide +kernel))) rfl
theorem k_1185 : Cond.instanceMethod ({ cls := "ShareTicketsModel", name := "begins", desc := "()V" } : MethodName) ∈ a_GT := a_inT (a_t_5 (List.mem_of_getElem? (i := 225) (by decide +kernel))) rfl
theorem k_1186 : Cond.code ({ cls := "ShareTicketsModel", name := "begins", desc := "()V" } : MethodName) prog_12_method_2_code (2 : Nat) (Option.none : Option ClassFile.FieldType) ∈ a_GT := a_inT (a_t_5 (List.mem_of_getElem? (i := 226) (by decide +kernel))) rfl
theorem k_1187 : Cond.methodLink "ShareTicketsModel" (38 : Nat) ({ cls := "ShareTicketsModel", name := "becomes", desc := "([II)V" } : MethodName) ∈ a_GT := a_inT (a_t_5 (List.mem_of_getElem? (i := 227) (by decide +kernel))) rfl
theorem k_1189 : Cond.instanceMethod ({ cls := "ShareTicketsModel", name := "becomes", desc := "([II)V" } : MethodName) ∈ a_GT := a_inT (a_t_5 (List.mem_of_getElem? (i := 229) (by decide +kernel))) rfl
theorem k_1190 : Cond.code ({ cls := "ShareTicketsModel", name := "becomes", desc := "([II)V" } : MethodName) prog_12_method_3_code (4 : Nat) (Option.none : Option ClassFile.FieldType) ∈ a_GT := a_inT (a_t_5 (List.mem_of_getElem? (i := 230) (by decide +kernel))) rfl
theorem k_1191 : Cond.fieldLink "ShareTicketsModel" (7 : Nat) "ShareTicketsModel" "a" "[I" ∈ a_GT := a_inT (a_t_5 (List.mem_of_getElem? (i := 231) (by decide +kernel))) rfl
theorem k_1192 : Cond.fieldLink "ShareTicketsModel" (13 : Nat) "ShareTicketsModel" "fresh" "[I" ∈ a_GT := a_inT (a_t_5 (List.mem_of_getElem? (i := 232) (by decide +kernel))) rfl
theorem k_1193 : Cond.fieldLink "ShareTicketsModel" (16 : Nat) "ShareTicketsModel" "aside" "[I" ∈ a_GT := a_inT (a_t_5 (List.mem_of_getElem? (i := 233) (by decide +kernel))) rfl
theorem k_1194 : Cond.fieldLink "ShareTicketsModel" (19 : Nat) "ShareTicketsModel" "kept" "[I" ∈ a_GT := a_inT (a_t_5 (List.mem_of_getElem? (i := 234) (by decide +kernel))) rfl
theorem k_1195 : Cond.fieldLink "ShareTicketsModel" (45 : Nat) "ShareTicketsModel" "keptMany" "I" ∈ a_GT := a_inT (a_t_5 (List.mem_of_getElem? (i := 235) (by decide +kernel))) rfl
theorem k_1196 : Cond.fieldLink "ShareTicketsModel" (42 : Nat) "ShareTicketsModel" "thrown" "I" ∈ a_GT := a_inT (a_t_5 (List.mem_of_getElem? (i := 236) (by decide +kernel))) rfl
theorem k_1197 : Cond.fieldLink "ShareTicketsModel" (22 : Nat) "ShareTicketsModel" "buffer" "[I" ∈ a_GT := a_inT (a_t_5 (List.mem_of_getElem? (i := 237) (by decide +kernel))) rfl
theorem k_1198 : Cond.fieldLink "ShareTicketsModel" (48 : Nat) "ShareTicketsModel" "buffered" "I" ∈ a_GT := a_inT (a_t_5 (List.mem_of_getElem? (i := 238) (by decide +kernel))) rfl
theorem k_1199 : Cond.fieldLink "ShareTicketsModel" (51 : Nat) "ShareTicketsModel" "size" "I" ∈ a_GT := a_inT (a_t_5 (List.mem_of_getElem? (i := 239) (by decide +kernel))) rfl
theorem k_1200 : Cond.fieldLink "ShareTicketsModel" (61 : Nat) "ShareTicketsModel" "at" "I" ∈ a_GT := a_inT (a_t_6 (List.mem_of_getElem? (i := 0) (by decide +kernel))) rfl
theorem k_1201 : Cond.fieldLink "ShareTicketsModel" (58 : Nat) "ShareTicketsModel" "behind" "I" ∈ a_GT := a_inT (a_t_6 (List.mem_of_getElem? (i := 1) (by decide +kernel))) rfl
theorem k_1202 : Cond.fieldLink "ShareTicketsModel" (68 : Nat) "ShareTicketsModel" "kind" "I" ∈ a_GT := a_inT (a_t_6 (List.mem_of_getElem? (i := 2) (by decide +kernel))) rfl
theorem k_1203 : Cond.fieldLink "ShareTicketsModel" (78 : Nat) "ShareTicketsModel" "number" "I" ∈ a_GT := a_inT (a_t_6 (List.mem_of_getElem? (i := 3) (by decide +kernel))) rfl
theorem k_1204 : Cond.fieldLink "ShareTicketsModel" (81 : Nat) "ShareTicketsModel" "wrong" "I" ∈ a_GT := a_inT (a_t_6 (List.mem_of_getElem? (i := 4) (by decide +kernel))) rfl
theorem k_1205 : Cond.fieldLink "ShareTicketsModel" (94 : Nat) "ShareTicketsModel" "wrongAt" "I" ∈ a_GT := a_inT (a_t_6 (List.mem_of_getElem? (i := 5) (by decide +kernel))) rfl
theorem k_1206 : Cond.fieldLink "ShareTicketsModel" (25 : Nat) "ShareTicketsModel" "errorAt" "I" ∈ a_GT := a_inT (a_t_6 (List.mem_of_getElem? (i := 6) (by decide +kernel))) rfl
theorem k_1207 : Cond.fieldLink "ShareTicketsModel" (29 : Nat) "ShareTicketsModel" "tickets" "[I" ∈ a_GT := a_inT (a_t_6 (List.mem_of_getElem? (i := 7) (by decide +kernel))) rfl
theorem k_1208 : Cond.fieldLink "ShareTicketsModel" (278 : Nat) "ShareTicketsModel" "wasted" "I" ∈ a_GT := a_inT (a_t_6 (List.mem_of_getElem? (i := 8) (by decide +kernel))) rfl
theorem k_1209 : Cond.fieldLink "ShareTicketsModel" (32 : Nat) "ShareTicketsModel" "written" "[I" ∈ a_GT := a_inT (a_t_6 (List.mem_of_getElem? (i := 9) (by decide +kernel))) rfl
theorem k_1210 : Cond.fieldLink "ShareTicketsModel" (286 : Nat) "ShareTicketsModel" "writtenMany" "I" ∈ a_GT := a_inT (a_t_6 (List.mem_of_getElem? (i := 10) (by decide +kernel))) rfl
theorem k_1211 : Cond.laysFinal "ShareTicketsModel" "ShareTicketsModel" "a" "[I" ∈ a_GT := a_inT (a_t_6 (List.mem_of_getElem? (i := 11) (by decide +kernel))) rfl
theorem k_1213 : Cond.laysFinal "ShareTicketsModel" "ShareTicketsModel" "fresh" "[I" ∈ a_GT := a_inT (a_t_6 (List.mem_of_getElem? (i := 13) (by decide +kernel))) rfl
theorem k_1215 : Cond.laysFinal "ShareTicketsModel" "ShareTicketsModel" "aside" "[I" ∈ a_GT := a_inT (a_t_6 (List.mem_of_getElem? (i := 15) (by decide +kernel))) rfl
theorem k_1217 : Cond.laysFinal "ShareTicketsModel" "ShareTicketsModel" "kept" "[I" ∈ a_GT := a_inT (a_t_6 (List.mem_of_getElem? (i := 17) (by decide +kernel))) rfl
theorem k_1219 : Cond.lays "ShareTicketsModel" "ShareTicketsModel" "keptMany" "I" ∈ a_GT := a_inT (a_t_6 (List.mem_of_getElem? (i := 19) (by decide +kernel))) rfl
theorem k_1221 : Cond.lays "ShareTicketsModel" "ShareTicketsModel" "thrown" "I" ∈ a_GT := a_inT (a_t_6 (List.mem_of_getElem? (i := 21) (by decide +kernel))) rfl
theorem k_1223 : Cond.laysFinal "ShareTicketsModel" "ShareTicketsModel" "buffer" "[I" ∈ a_GT := a_inT (a_t_6 (List.mem_of_getElem? (i := 23) (by decide +kernel))) rfl
theorem k_1225 : Cond.lays "ShareTicketsModel" "ShareTicketsModel" "buffered" "I" ∈ a_GT := a_inT (a_t_6 (List.mem_of_getElem? (i := 25) (by decide +kernel))) rfl
theorem k_1227 : Cond.lays "ShareTicketsModel" "ShareTicketsModel" "size" "I" ∈ a_GT := a_inT (a_t_6 (List.mem_of_getElem? (i := 27) (by decide +kernel))) rfl
theorem k_1229 : Cond.lays "ShareTicketsModel" "ShareTicketsModel" "at" "I" ∈ a_GT := a_inT (a_t_6 (List.mem_of_getElem? (i := 29) (by decide +kernel))) rfl
theorem k_1231 : Cond.lays "ShareTicketsModel" "ShareTicketsModel" "behind" "I" ∈ a_GT := a_inT (a_t_6 (List.mem_of_getElem? (i := 31) (by decide +kernel))) rfl
theorem k_1233 : Cond.lays "ShareTicketsModel" "ShareTicketsModel" "kind" "I" ∈ a_GT := a_inT (a_t_6 (List.mem_of_getElem? (i := 33) (by decide +kernel))) rfl
theorem k_1235 : Cond.lays "ShareTicketsModel" "ShareTicketsModel" "number" "I" ∈ a_GT := a_inT (a_t_6 (List.mem_of_getElem? (i := 35) (by decide +kernel))) rfl
theorem k_1237 : Cond.lays "ShareTicketsModel" "ShareTicketsModel" "wrong" "I" ∈ a_GT := a_inT (a_t_6 (List.mem_of_getElem? (i := 37) (by decide +kernel))) rfl
theorem k_1239 : Cond.lays "ShareTicketsModel" "ShareTicketsModel" "wrongAt" "I" ∈ a_GT := a_inT (a_t_6 (List.mem_of_getElem? (i := 39) (by decide +kernel))) rfl
theorem k_1241 : Cond.lays "ShareTicketsModel" "ShareTicketsModel" "errorAt" "I" ∈ a_GT := a_inT (a_t_6 (List.mem_of_getElem? (i := 41) (by decide +kernel))) rfl
theorem k_1243 : Cond.laysFinal "ShareTicketsModel" "ShareTicketsModel" "tickets" "[I" ∈ a_GT := a_inT (a_t_6 (List.mem_of_getElem? (i := 43) (by decide +kernel))) rfl
theorem k_1245 : Cond.lays "ShareTicketsModel" "ShareTicketsModel" "wasted" "I" ∈ a_GT := a_inT (a_t_6 (List.mem_of_getElem? (i := 45) (by decide +kernel))) rfl
theorem k_1247 : Cond.laysFinal "ShareTicketsModel" "ShareTicketsModel" "written" "[I" ∈ a_GT := a_inT (a_t_6 (List.mem_of_getElem? (i := 47) (by decide +kernel))) rfl
theorem k_1249 : Cond.lays "ShareTicketsModel" "ShareTicketsModel" "writtenMany" "I" ∈ a_GT := a_inT (a_t_6 (List.mem_of_getElem? (i := 49) (by decide +kernel))) rfl
theorem k_1251 : Cond.superclass "ShareTicketsModel" "java/lang/Object" ∈ a_GT := a_inT (a_t_6 (List.mem_of_getElem? (i := 51) (by decide +kernel))) rfl
theorem k_1252 : Cond.methodLink "ShareTicketsLaw" (107 : Nat) ({ cls := "ShareTicketsModel", name := "thrown", desc := "()I" } : MethodName) ∈ a_GT := a_inT (a_t_6 (List.mem_of_getElem? (i := 52) (by decide +kernel))) rfl
theorem k_1253 : Cond.instanceMethod ({ cls := "ShareTicketsModel", name := "thrown", desc := "()I" } : MethodName) ∈ a_GT := a_inT (a_t_6 (List.mem_of_getElem? (i := 53) (by decide +kernel))) rfl
theorem k_1254 : Cond.selects "ShareTicketsModel" ({ cls := "ShareTicketsModel", name := "thrown", desc := "()I" } : MethodName) ({ cls := "ShareTicketsModel", name := "thrown", desc := "()I" } : MethodName) ∈ a_GT := a_inT (a_t_6 (List.mem_of_getElem? (i := 54) (by decide +kernel))) rfl
theorem k_1255 : Cond.code ({ cls := "ShareTicketsModel", name := "thrown", desc := "()I" } : MethodName) prog_12_method_4_code (1 : Nat) (Option.some ClassFile.FieldType.int) ∈ a_GT := a_inT (a_t_6 (List.mem_of_getElem? (i := 55) (by decide +kernel))) rfl
theorem k_1256 : Cond.methodLink "ShareTicketsLaw" (200 : Nat) ({ cls := "ShareTicketsModel", name := "undo", desc := "()I" } : MethodName) ∈ a_GT := a_inT (a_t_6 (List.mem_of_getElem? (i := 56) (by decide +kernel))) rfl
theorem k_1257 : Cond.instanceMethod ({ cls := "ShareTicketsModel", name := "undo", desc := "()I" } : MethodName) ∈ a_GT := a_inT (a_t_6 (List.mem_of_getElem? (i := 57) (by decide +kernel))) rfl
theorem k_1258 : Cond.selects "ShareTicketsModel" ({ cls := "ShareTicketsModel", name := "undo", desc := "()I" } : MethodName) ({ cls := "ShareTicketsModel", name := "undo", desc := "()I" } : MethodName) ∈ a_GT := a_inT (a_t_6 (List.mem_of_getElem? (i := 58) (by decide +kernel))) rfl
theorem k_1259 : Cond.code ({ cls := "ShareTicketsModel", name := "undo", desc := "()I" } : MethodName) prog_12_method_7_code (1 : Nat) (Option.some ClassFile.FieldType.int) ∈ a_GT := a_inT (a_t_6 (List.mem_of_getElem? (i := 59) (by decide +kernel))) rfl
theorem k_1260 : Cond.methodLink "ShareTicketsLaw" (106 : Nat) ({ cls := "ShareTicketsModel", name := "append", desc := "(IIIII)I" } : MethodName) ∈ a_GT := a_inT (a_t_6 (List.mem_of_getElem? (i := 60) (by decide +kernel))) rfl
theorem k_1261 : Cond.instanceMethod ({ cls := "ShareTicketsModel", name := "append", desc := "(IIIII)I" } : MethodName) ∈ a_GT := a_inT (a_t_6 (List.mem_of_getElem? (i := 61) (by decide +kernel))) rfl
theorem k_1262 : Cond.selects "ShareTicketsModel" ({ cls := "ShareTicketsModel", name := "append", desc := "(IIIII)I" } : MethodName) ({ cls := "ShareTicketsModel", name := "append", desc := "(IIIII)I" } : MethodName) ∈ a_GT := a_inT (a_t_6 (List.mem_of_getElem? (i := 62) (by decide +kernel))) rfl
theorem k_1263 : Cond.code ({ cls := "ShareTicketsModel", name := "append", desc := "(IIIII)I" } : MethodName) prog_12_method_8_code (8 : Nat) (Option.some ClassFile.FieldType.int) ∈ a_GT := a_inT (a_t_6 (List.mem_of_getElem? (i := 63) (by decide +kernel))) rfl
theorem k_1264 : Cond.methodLink "ShareTicketsLaw" (113 : Nat) ({ cls := "ShareTicketsModel", name := "load", desc := "(I)I" } : MethodName) ∈ a_GT := a_inT (a_t_6 (List.mem_of_getElem? (i := 64) (by decide +kernel))) rfl
theorem k_1265 : Cond.instanceMethod ({ cls := "ShareTicketsModel", name := "load", desc := "(I)I" } : MethodName) ∈ a_GT := a_inT (a_t_6 (List.mem_of_getElem? (i := 65) (by decide +kernel))) rfl
theorem k_1266 : Cond.selects "ShareTicketsModel" ({ cls := "ShareTicketsModel", name := "load", desc := "(I)I" } : MethodName) ({ cls := "ShareTicketsModel", name := "load", desc := "(I)I" } : MethodName) ∈ a_GT := a_inT (a_t_6 (List.mem_of_getElem? (i := 66) (by decide +kernel))) rfl
theorem k_1267 : Cond.code ({ cls := "ShareTicketsModel", name := "load", desc := "(I)I" } : MethodName) prog_12_method_22_code (2 : Nat) (Option.some ClassFile.FieldType.int) ∈ a_GT := a_inT (a_t_6 (List.mem_of_getElem? (i := 67) (by decide +kernel))) rfl
theorem k_1268 : Cond.methodLink "ShareTicketsModel" (54 : Nat) ({ cls := "ShareTicketsModel", name := "isIn", desc := "(III)Z" } : MethodName) ∈ a_GT := a_inT (a_t_6 (List.mem_of_getElem? (i := 68) (by decide +kernel))) rfl
theorem k_1269 : Cond.static ({ cls := "ShareTicketsModel", name := "isIn", desc := "(III)Z" } : MethodName) ∈ a_GT := a_inT (a_t_6 (List.mem_of_getElem? (i := 69) (by decide +kernel))) rfl
theorem k_1270 : Cond.code ({ cls := "ShareTicketsModel", name := "isIn", desc := "(III)Z" } : MethodName) prog_12_method_5_code (3 : Nat) (Option.some ClassFile.FieldType.boolean) ∈ a_GT := a_inT (a_t_6 (List.mem_of_getElem? (i := 70) (by decide +kernel))) rfl
theorem k_1271 : Cond.methodLink "ShareTicketsModel" (159 : Nat) ({ cls := "ShareTicketsModel", name := "sets", desc := "([I[I)V" } : MethodName) ∈ a_GT := a_inT (a_t_6 (List.mem_of_getElem? (i := 71) (by decide +kernel))) rfl
theorem k_1272 : Cond.static ({ cls := "ShareTicketsModel", name := "sets", desc := "([I[I)V" } : MethodName) ∈ a_GT := a_inT (a_t_6 (List.mem_of_getElem? (i := 72) (by decide +kernel))) rfl
theorem k_1273 : Cond.code ({ cls := "ShareTicketsModel", name := "sets", desc := "([I[I)V" } : MethodName) prog_12_method_23_code (3 : Nat) (Option.none : Option ClassFile.FieldType) ∈ a_GT := a_inT (a_t_6 (List.mem_of_getElem? (i := 73) (by decide +kernel))) rfl
theorem k_1274 : Cond.methodLink "ShareTicketsModel" (101 : Nat) ({ cls := "ShareTicketsModel", name := "next", desc := "()V" } : MethodName) ∈ a_GT := a_inT (a_t_6 (List.mem_of_getElem? (i := 74) (by decide +kernel))) rfl
theorem k_1276 : Cond.instanceMethod ({ cls := "ShareTicketsModel", name := "next", desc := "()V" } : MethodName) ∈ a_GT := a_inT (a_t_6 (List.mem_of_getElem? (i := 76) (by decide +kernel))) rfl
theorem k_1277 : Cond.code ({ cls := "ShareTicketsModel", name := "next", desc := "()V" } : MethodName) prog_12_method_12_code (1 : Nat) (Option.none : Option ClassFile.FieldType) ∈ a_GT := a_inT (a_t_6 (List.mem_of_getElem? (i := 77) (by decide +kernel))) rfl
theorem k_1278 : Cond.methodLink "ShareTicketsModel" (64 : Nat) ({ cls := "ShareTicketsModel", name := "see", desc := "(I)I" } : MethodName) ∈ a_GT := a_inT (a_t_6 (List.mem_of_getElem? (i := 78) (by decide +kernel))) rfl
theorem k_1280 : Cond.instanceMethod ({ cls := "ShareTicketsModel", name := "see", desc := "(I)I" } : MethodName) ∈ a_GT := a_inT (a_t_6 (List.mem_of_getElem? (i := 80) (by decide +kernel))) rfl
theorem k_1281 : Cond.code ({ cls := "ShareTicketsModel", name := "see", desc := "(I)I" } : MethodName) prog_12_method_9_code (2 : Nat) (Option.some ClassFile.FieldType.int) ∈ a_GT := a_inT (a_t_6 (List.mem_of_getElem? (i := 81) (by decide +kernel))) rfl
theorem k_1282 : Cond.methodLink "ShareTicketsModel" (71 : Nat) ({ cls := "ShareTicketsModel", name := "isLetter", desc := "(I)Z" } : MethodName) ∈ a_GT := a_inT (a_t_6 (List.mem_of_getElem? (i := 82) (by decide +kernel))) rfl
theorem k_1283 : Cond.static ({ cls := "ShareTicketsModel", name := "isLetter", desc := "(I)Z" } : MethodName) ∈ a_GT := a_inT (a_t_6 (List.mem_of_getElem? (i := 83) (by decide +kernel))) rfl
theorem k_1284 : Cond.code ({ cls := "ShareTicketsModel", name := "isLetter", desc := "(I)Z" } : MethodName) prog_12_method_10_code (1 : Nat) (Option.some ClassFile.FieldType.boolean) ∈ a_GT := a_inT (a_t_6 (List.mem_of_getElem? (i := 84) (by decide +kernel))) rfl
theorem k_1285 : Cond.methodLink "ShareTicketsModel" (75 : Nat) ({ cls := "ShareTicketsModel", name := "isDigit", desc := "(I)Z" } : MethodName) ∈ a_GT := a_inT (a_t_6 (List.mem_of_getElem? (i := 85) (by decide +kernel))) rfl
theorem k_1286 : Cond.static ({ cls := "ShareTicketsModel", name := "isDigit", desc := "(I)Z" } : MethodName) ∈ a_GT := a_inT (a_t_6 (List.mem_of_getElem? (i := 86) (by decide +kernel))) rfl
theorem k_1287 : Cond.code ({ cls := "ShareTicketsModel", name := "isDigit", desc := "(I)Z" } : MethodName) prog_12_method_11_code (1 : Nat) (Option.some ClassFile.FieldType.boolean) ∈ a_GT := a_inT (a_t_6 (List.mem_of_getElem? (i := 87) (by decide +kernel))) rfl
theorem k_1288 : Cond.methodLink "ShareTicketsModel" (163 : Nat) ({ cls := "ShareTicketsModel", name := "readsStatement", desc := "()V" } : MethodName) ∈ a_GT := a_inT (a_t_6 (List.mem_of_getElem? (i := 88) (by decide +kernel))) rfl
theorem k_1290 : Cond.instanceMethod ({ cls := "ShareTicketsModel", name := "readsStatement", desc := "()V" } : MethodName) ∈ a_GT := a_inT (a_t_6 (List.mem_of_getElem? (i := 90) (by decide +kernel))) rfl
theorem k_1291 : Cond.code ({ cls := "ShareTicketsModel", name := "readsStatement", desc := "()V" } : MethodName) prog_12_method_21_code (1 : Nat) (Option.none : Option ClassFile.FieldType) ∈ a_GT := a_inT (a_t_6 (List.mem_of_getElem? (i := 91) (by decide +kernel))) rfl
theorem s_1292 : Cond.stringRef "ShareTicketsModel" (131 : Nat) "user" ∈ tables_1 := a_t_6 (List.mem_of_getElem? (i := 92) (by decide +kernel))
theorem k_1293 : Cond.methodLink "ShareTicketsModel" (133 : Nat) ({ cls := "ShareTicketsModel", name := "isWord", desc := "(Ljava/lang/String;)Z" } : MethodName) ∈ a_GT := a_inT (a_t_6 (List.mem_of_getElem? (i := 93) (by decide +kernel))) rfl
theorem k_1295 : Cond.instanceMethod ({ cls := "ShareTicketsModel", name := "isWord", desc := "(Ljava/lang/String;)Z" } : MethodName) ∈ a_GT := a_inT (a_t_6 (List.mem_of_getElem? (i := 95) (by decide +kernel))) rfl
theorem k_1296 : Cond.code ({ cls := "ShareTicketsModel", name := "isWord", desc := "(Ljava/lang/String;)Z" } : MethodName) prog_12_method_13_code (3 : Nat) (Option.some ClassFile.FieldType.boolean) ∈ a_GT := a_inT (a_t_6 (List.mem_of_getElem? (i := 96) (by decide +kernel))) rfl
theorem k_1297 : Cond.methodLink "ShareTicketsModel" (84 : Nat) ({ cls := "java/lang/String", name := "length", desc := "()I" } : MethodName) ∈ a_GT := a_inT (a_t_6 (List.mem_of_getElem? (i := 97) (by decide +kernel))) rfl
theorem k_1298 : Cond.methodLink "ShareTicketsModel" (90 : Nat) ({ cls := "java/lang/String", name := "charAt", desc := "(I)C" } : MethodName) ∈ a_GT := a_inT (a_t_6 (List.mem_of_getElem? (i := 98) (by decide +kernel))) rfl
theorem k_1299 : Cond.methodLink "ShareTicketsModel" (137 : Nat) ({ cls := "ShareTicketsModel", name := "readsUser", desc := "()V" } : MethodName) ∈ a_GT := a_inT (a_t_6 (List.mem_of_getElem? (i := 99) (by decide +kernel))) rfl
theorem k_1301 : Cond.instanceMethod ({ cls := "ShareTicketsModel", name := "readsUser", desc := "()V" } : MethodName) ∈ a_GT := a_inT (a_t_6 (List.mem_of_getElem? (i := 101) (by decide +kernel))) rfl
theorem k_1302 : Cond.code ({ cls := "ShareTicketsModel", name := "readsUser", desc := "()V" } : MethodName) prog_12_method_17_code (3 : Nat) (Option.none : Option ClassFile.FieldType) ∈ a_GT := a_inT (a_t_6 (List.mem_of_getElem? (i := 102) (by decide +kernel))) rfl
theorem k_1303 : Cond.methodLink "ShareTicketsModel" (97 : Nat) ({ cls := "ShareTicketsModel", name := "fails", desc := "(I)V" } : MethodName) ∈ a_GT := a_inT (a_t_6 (List.mem_of_getElem? (i := 103) (by decide +kernel))) rfl
theorem k_1305 : Cond.instanceMethod ({ cls := "ShareTicketsModel", name := "fails", desc := "(I)V" } : MethodName) ∈ a_GT := a_inT (a_t_6 (List.mem_of_getElem? (i := 105) (by decide +kernel))) rfl
theorem k_1306 : Cond.code ({ cls := "ShareTicketsModel", name := "fails", desc := "(I)V" } : MethodName) prog_12_method_14_code (2 : Nat) (Option.none : Option ClassFile.FieldType) ∈ a_GT := a_inT (a_t_6 (List.mem_of_getElem? (i := 106) (by decide +kernel))) rfl
theorem k_1307 : Cond.methodLink "ShareTicketsModel" (104 : Nat) ({ cls := "ShareTicketsModel", name := "must", desc := "(Z)V" } : MethodName) ∈ a_GT := a_inT (a_t_6 (List.mem_of_getElem? (i := 107) (by decide +kernel))) rfl
theorem k_1309 : Cond.instanceMethod ({ cls := "ShareTicketsModel", name := "must", desc := "(Z)V" } : MethodName) ∈ a_GT := a_inT (a_t_6 (List.mem_of_getElem? (i := 109) (by decide +kernel))) rfl
theorem k_1310 : Cond.code ({ cls := "ShareTicketsModel", name := "must", desc := "(Z)V" } : MethodName) prog_12_method_15_code (2 : Nat) (Option.none : Option ClassFile.FieldType) ∈ a_GT := a_inT (a_t_6 (List.mem_of_getElem? (i := 110) (by decide +kernel))) rfl
theorem k_1311 : Cond.methodLink "ShareTicketsModel" (108 : Nat) ({ cls := "ShareTicketsModel", name := "hasJobs", desc := "(I)Z" } : MethodName) ∈ a_GT := a_inT (a_t_6 (List.mem_of_getElem? (i := 111) (by decide +kernel))) rfl
theorem k_1313 : Cond.instanceMethod ({ cls := "ShareTicketsModel", name := "hasJobs", desc := "(I)Z" } : MethodName) ∈ a_GT := a_inT (a_t_6 (List.mem_of_getElem? (i := 113) (by decide +kernel))) rfl
theorem k_1314 : Cond.code ({ cls := "ShareTicketsModel", name := "hasJobs", desc := "(I)Z" } : MethodName) prog_12_method_28_code (4 : Nat) (Option.some ClassFile.FieldType.boolean) ∈ a_GT := a_inT (a_t_6 (List.mem_of_getElem? (i := 114) (by decide +kernel))) rfl
theorem k_1315 : Cond.methodLink "ShareTicketsModel" (175 : Nat) ({ cls := "ShareTicketsModel", name := "of", desc := "(II)I" } : MethodName) ∈ a_GT := a_inT (a_t_6 (List.mem_of_getElem? (i := 115) (by decide +kernel))) rfl
theorem k_1317 : Cond.instanceMethod ({ cls := "ShareTicketsModel", name := "of", desc := "(II)I" } : MethodName) ∈ a_GT := a_inT (a_t_6 (List.mem_of_getElem? (i := 117) (by decide +kernel))) rfl
theorem k_1318 : Cond.code ({ cls := "ShareTicketsModel", name := "of", desc := "(II)I" } : MethodName) prog_12_method_57_code (3 : Nat) (Option.some ClassFile.FieldType.int) ∈ a_GT := a_inT (a_t_6 (List.mem_of_getElem? (i := 118) (by decide +kernel))) rfl
theorem k_1319 : Cond.methodLink "ShareTicketsModel" (111 : Nat) ({ cls := "ShareTicketsModel", name := "takes", desc := "(II)I" } : MethodName) ∈ a_GT := a_inT (a_t_6 (List.mem_of_getElem? (i := 119) (by decide +kernel))) rfl
theorem k_1321 : Cond.instanceMethod ({ cls := "ShareTicketsModel", name := "takes", desc := "(II)I" } : MethodName) ∈ a_GT := a_inT (a_t_6 (List.mem_of_getElem? (i := 121) (by decide +kernel))) rfl
theorem k_1322 : Cond.code ({ cls := "ShareTicketsModel", name := "takes", desc := "(II)I" } : MethodName) prog_12_method_16_code (4 : Nat) (Option.some ClassFile.FieldType.int) ∈ a_GT := a_inT (a_t_6 (List.mem_of_getElem? (i := 122) (by decide +kernel))) rfl
theorem k_1323 : Cond.methodLink "ShareTicketsModel" (115 : Nat) ({ cls := "ShareTicketsModel", name := "addsUser", desc := "(II)V" } : MethodName) ∈ a_GT := a_inT (a_t_6 (List.mem_of_getElem? (i := 123) (by decide +kernel))) rfl
theorem k_1325 : Cond.instanceMethod ({ cls := "ShareTicketsModel", name := "addsUser", desc := "(II)V" } : MethodName) ∈ a_GT := a_inT (a_t_6 (List.mem_of_getElem? (i := 125) (by decide +kernel))) rfl
theorem k_1326 : Cond.code ({ cls := "ShareTicketsModel", name := "addsUser", desc := "(II)V" } : MethodName) prog_12_method_30_code (4 : Nat) (Option.none : Option ClassFile.FieldType) ∈ a_GT := a_inT (a_t_6 (List.mem_of_getElem? (i := 126) (by decide +kernel))) rfl
theorem s_1327 : Cond.stringRef "ShareTicketsModel" (140 : Nat) "machine" ∈ tables_1 := a_t_6 (List.mem_of_getElem? (i := 127) (by decide +kernel))
theorem k_1328 : Cond.methodLink "ShareTicketsModel" (142 : Nat) ({ cls := "ShareTicketsModel", name := "readsMachine", desc := "()V" } : MethodName) ∈ a_GT := a_inT (a_t_6 (List.mem_of_getElem? (i := 128) (by decide +kernel))) rfl
theorem k_1330 : Cond.instanceMethod ({ cls := "ShareTicketsModel", name := "readsMachine", desc := "()V" } : MethodName) ∈ a_GT := a_inT (a_t_6 (List.mem_of_getElem? (i := 130) (by decide +kernel))) rfl
theorem k_1331 : Cond.code ({ cls := "ShareTicketsModel", name := "readsMachine", desc := "()V" } : MethodName) prog_12_method_18_code (2 : Nat) (Option.none : Option ClassFile.FieldType) ∈ a_GT := a_inT (a_t_6 (List.mem_of_getElem? (i := 131) (by decide +kernel))) rfl
theorem s_1332 : Cond.stringRef "ShareTicketsModel" (145 : Nat) "job" ∈ tables_1 := a_t_6 (List.mem_of_getElem? (i := 132) (by decide +kernel))
theorem k_1333 : Cond.methodLink "ShareTicketsModel" (147 : Nat) ({ cls := "ShareTicketsModel", name := "readsJob", desc := "()V" } : MethodName) ∈ a_GT := a_inT (a_t_6 (List.mem_of_getElem? (i := 133) (by decide +kernel))) rfl
theorem k_1335 : Cond.instanceMethod ({ cls := "ShareTicketsModel", name := "readsJob", desc := "()V" } : MethodName) ∈ a_GT := a_inT (a_t_6 (List.mem_of_getElem? (i := 135) (by decide +kernel))) rfl
theorem k_1336 : Cond.code ({ cls := "ShareTicketsModel", name := "readsJob", desc := "()V" } : MethodName) prog_12_method_19_code (3 : Nat) (Option.none : Option ClassFile.FieldType) ∈ a_GT := a_inT (a_t_6 (List.mem_of_getElem? (i := 136) (by decide +kernel))) rfl
theorem k_1337 : Cond.methodLink "ShareTicketsModel" (119 : Nat) ({ cls := "ShareTicketsModel", name := "isLeaf", desc := "(I)Z" } : MethodName) ∈ a_GT := a_inT (a_t_6 (List.mem_of_getElem? (i := 137) (by decide +kernel))) rfl
theorem k_1339 : Cond.instanceMethod ({ cls := "ShareTicketsModel", name := "isLeaf", desc := "(I)Z" } : MethodName) ∈ a_GT := a_inT (a_t_6 (List.mem_of_getElem? (i := 139) (by decide +kernel))) rfl
theorem k_1340 : Cond.code ({ cls := "ShareTicketsModel", name := "isLeaf", desc := "(I)Z" } : MethodName) prog_12_method_27_code (2 : Nat) (Option.some ClassFile.FieldType.boolean) ∈ a_GT := a_inT (a_t_6 (List.mem_of_getElem? (i := 140) (by decide +kernel))) rfl
theorem k_1341 : Cond.methodLink "ShareTicketsModel" (172 : Nat) ({ cls := "ShareTicketsModel", name := "childrenOf", desc := "(I)I" } : MethodName) ∈ a_GT := a_inT (a_t_6 (List.mem_of_getElem? (i := 141) (by decide +kernel))) rfl
theorem k_1343 : Cond.instanceMethod ({ cls := "ShareTicketsModel", name := "childrenOf", desc := "(I)I" } : MethodName) ∈ a_GT := a_inT (a_t_6 (List.mem_of_getElem? (i := 143) (by decide +kernel))) rfl
theorem k_1344 : Cond.code ({ cls := "ShareTicketsModel", name := "childrenOf", desc := "(I)I" } : MethodName) prog_12_method_26_code (4 : Nat) (Option.some ClassFile.FieldType.int) ∈ a_GT := a_inT (a_t_6 (List.mem_of_getElem? (i := 144) (by decide +kernel))) rfl
theorem k_1345 : Cond.methodLink "ShareTicketsModel" (122 : Nat) ({ cls := "ShareTicketsModel", name := "addsJob", desc := "(II)V" } : MethodName) ∈ a_GT := a_inT (a_t_6 (List.mem_of_getElem? (i := 145) (by decide +kernel))) rfl
theorem k_1347 : Cond.instanceMethod ({ cls := "ShareTicketsModel", name := "addsJob", desc := "(II)V" } : MethodName) ∈ a_GT := a_inT (a_t_6 (List.mem_of_getElem? (i := 147) (by decide +kernel))) rfl
theorem k_1348 : Cond.code ({ cls := "ShareTicketsModel", name := "addsJob", desc := "(II)V" } : MethodName) prog_12_method_70_code (4 : Nat) (Option.none : Option ClassFile.FieldType) ∈ a_GT := a_inT (a_t_6 (List.mem_of_getElem? (i := 148) (by decide +kernel))) rfl
theorem k_1349 : Cond.methodLink "ShareTicketsModel" (233 : Nat) ({ cls := "ShareTicketsModel", name := "lays", desc := "(III)V" } : MethodName) ∈ a_GT := a_inT (a_t_6 (List.mem_of_getElem? (i := 149) (by decide +kernel))) rfl
theorem k_1351 : Cond.instanceMethod ({ cls := "ShareTicketsModel", name := "lays", desc := "(III)V" } : MethodName) ∈ a_GT := a_inT (a_t_6 (List.mem_of_getElem? (i := 151) (by decide +kernel))) rfl
theorem k_1352 : Cond.code ({ cls := "ShareTicketsModel", name := "lays", desc := "(III)V" } : MethodName) prog_12_method_58_code (4 : Nat) (Option.none : Option ClassFile.FieldType) ∈ a_GT := a_inT (a_t_6 (List.mem_of_getElem? (i := 152) (by decide +kernel))) rfl
theorem s_1353 : Cond.stringRef "ShareTicketsModel" (150 : Nat) "half" ∈ tables_1 := a_t_6 (List.mem_of_getElem? (i := 153) (by decide +kernel))
theorem k_1354 : Cond.methodLink "ShareTicketsModel" (152 : Nat) ({ cls := "ShareTicketsModel", name := "readsSetting", desc := "(I)V" } : MethodName) ∈ a_GT := a_inT (a_t_6 (List.mem_of_getElem? (i := 154) (by decide +kernel))) rfl
theorem k_1356 : Cond.instanceMethod ({ cls := "ShareTicketsModel", name := "readsSetting", desc := "(I)V" } : MethodName) ∈ a_GT := a_inT (a_t_6 (List.mem_of_getElem? (i := 156) (by decide +kernel))) rfl
theorem k_1357 : Cond.code ({ cls := "ShareTicketsModel", name := "readsSetting", desc := "(I)V" } : MethodName) prog_12_method_20_code (3 : Nat) (Option.none : Option ClassFile.FieldType) ∈ a_GT := a_inT (a_t_6 (List.mem_of_getElem? (i := 157) (by decide +kernel))) rfl
theorem k_1358 : Cond.methodLink "ShareTicketsModel" (125 : Nat) ({ cls := "ShareTicketsModel", name := "least", desc := "(I)I" } : MethodName) ∈ a_GT := a_inT (a_t_6 (List.mem_of_getElem? (i := 158) (by decide +kernel))) rfl
theorem k_1359 : Cond.static ({ cls := "ShareTicketsModel", name := "least", desc := "(I)I" } : MethodName) ∈ a_GT := a_inT (a_t_6 (List.mem_of_getElem? (i := 159) (by decide +kernel))) rfl
theorem k_1360 : Cond.code ({ cls := "ShareTicketsModel", name := "least", desc := "(I)I" } : MethodName) prog_12_method_75_code (1 : Nat) (Option.some ClassFile.FieldType.int) ∈ a_GT := a_inT (a_t_6 (List.mem_of_getElem? (i := 160) (by decide +kernel))) rfl
theorem k_1361 : Cond.methodLink "ShareTicketsModel" (128 : Nat) ({ cls := "ShareTicketsModel", name := "most", desc := "(I)I" } : MethodName) ∈ a_GT := a_inT (a_t_6 (List.mem_of_getElem? (i := 161) (by decide +kernel))) rfl
theorem k_1362 : Cond.static ({ cls := "ShareTicketsModel", name := "most", desc := "(I)I" } : MethodName) ∈ a_GT := a_inT (a_t_6 (List.mem_of_getElem? (i := 162) (by decide +kernel))) rfl
theorem k_1363 : Cond.code ({ cls := "ShareTicketsModel", name := "most", desc := "(I)I" } : MethodName) prog_12_method_76_code (1 : Nat) (Option.some ClassFile.FieldType.int) ∈ a_GT := a_inT (a_t_6 (List.mem_of_getElem? (i := 163) (by decide +kernel))) rfl
theorem s_1364 : Cond.stringRef "ShareTicketsModel" (155 : Nat) "margin" ∈ tables_1 := a_t_6 (List.mem_of_getElem? (i := 164) (by decide +kernel))
theorem s_1365 : Cond.stringRef "ShareTicketsModel" (157 : Nat) "check" ∈ tables_1 := a_t_6 (List.mem_of_getElem? (i := 165) (by decide +kernel))
theorem k_1366 : Cond.methodLink "ShareTicketsModel" (166 : Nat) ({ cls := "ShareTicketsModel", name := "fills", desc := "()V" } : MethodName) ∈ a_GT := a_inT (a_t_6 (List.mem_of_getElem? (i := 166) (by decide +kernel))) rfl
theorem k_1368 : Cond.instanceMethod ({ cls := "ShareTicketsModel", name := "fills", desc := "()V" } : MethodName) ∈ a_GT := a_inT (a_t_6 (List.mem_of_getElem? (i := 168) (by decide +kernel))) rfl
theorem k_1369 : Cond.code ({ cls := "ShareTicketsModel", name := "fills", desc := "()V" } : MethodName) prog_12_method_65_code (3 : Nat) (Option.none : Option ClassFile.FieldType) ∈ a_GT := a_inT (a_t_6 (List.mem_of_getElem? (i := 169) (by decide +kernel))) rfl
theorem k_1370 : Cond.methodLink "ShareTicketsModel" (227 : Nat) ({ cls := "ShareTicketsModel", name := "worksTickets", desc := "()V" } : MethodName) ∈ a_GT := a_inT (a_t_6 (List.mem_of_getElem? (i := 170) (by decide +kernel))) rfl
theorem k_1372 : Cond.instanceMethod ({ cls := "ShareTicketsModel", name := "worksTickets", desc := "()V" } : MethodName) ∈ a_GT := a_inT (a_t_6 (List.mem_of_getElem? (i := 172) (by decide +kernel))) rfl
theorem k_1373 : Cond.code ({ cls := "ShareTicketsModel", name := "worksTickets", desc := "()V" } : MethodName) prog_12_method_47_code (2 : Nat) (Option.none : Option ClassFile.FieldType) ∈ a_GT := a_inT (a_t_6 (List.mem_of_getElem? (i := 173) (by decide +kernel))) rfl
theorem k_1374 : Cond.methodLink "ShareTicketsModel" (195 : Nat) ({ cls := "ShareTicketsModel", name := "ticketsOf", desc := "(I)I" } : MethodName) ∈ a_GT := a_inT (a_t_6 (List.mem_of_getElem? (i := 174) (by decide +kernel))) rfl
theorem k_1376 : Cond.instanceMethod ({ cls := "ShareTicketsModel", name := "ticketsOf", desc := "(I)I" } : MethodName) ∈ a_GT := a_inT (a_t_6 (List.mem_of_getElem? (i := 176) (by decide +kernel))) rfl
theorem k_1377 : Cond.code ({ cls := "ShareTicketsModel", name := "ticketsOf", desc := "(I)I" } : MethodName) prog_12_method_33_code (5 : Nat) (Option.some ClassFile.FieldType.int) ∈ a_GT := a_inT (a_t_6 (List.mem_of_getElem? (i := 177) (by decide +kernel))) rfl
theorem k_1378 : Cond.methodLink "ShareTicketsModel" (182 : Nat) ({ cls := "ShareTicketsModel", name := "baseOf", desc := "(I)I" } : MethodName) ∈ a_GT := a_inT (a_t_6 (List.mem_of_getElem? (i := 178) (by decide +kernel))) rfl
theorem k_1380 : Cond.instanceMethod ({ cls := "ShareTicketsModel", name := "baseOf", desc := "(I)I" } : MethodName) ∈ a_GT := a_inT (a_t_6 (List.mem_of_getElem? (i := 180) (by decide +kernel))) rfl
theorem k_1381 : Cond.code ({ cls := "ShareTicketsModel", name := "baseOf", desc := "(I)I" } : MethodName) prog_12_method_31_code (4 : Nat) (Option.some ClassFile.FieldType.int) ∈ a_GT := a_inT (a_t_6 (List.mem_of_getElem? (i := 181) (by decide +kernel))) rfl
theorem k_1382 : Cond.constant "ShareTicketsModel" (181 : Nat) (1000000 : Int32) ∈ a_GT := a_inT (a_t_6 (List.mem_of_getElem? (i := 182) (by decide +kernel))) rfl
theorem k_1383 : Cond.methodLink "ShareTicketsModel" (185 : Nat) ({ cls := "ShareTicketsModel", name := "isLent", desc := "(I)Z" } : MethodName) ∈ a_GT := a_inT (a_t_6 (List.mem_of_getElem? (i := 183) (by decide +kernel))) rfl
theorem k_1385 : Cond.instanceMethod ({ cls := "ShareTicketsModel", name := "isLent", desc := "(I)Z" } : MethodName) ∈ a_GT := a_inT (a_t_6 (List.mem_of_getElem? (i := 185) (by decide +kernel))) rfl
theorem k_1386 : Cond.code ({ cls := "ShareTicketsModel", name := "isLent", desc := "(I)Z" } : MethodName) prog_12_method_32_code (2 : Nat) (Option.some ClassFile.FieldType.boolean) ∈ a_GT := a_inT (a_t_6 (List.mem_of_getElem? (i := 186) (by decide +kernel))) rfl
theorem k_1387 : Cond.methodLink "ShareTicketsModel" (178 : Nat) ({ cls := "ShareTicketsModel", name := "lent", desc := "(II)I" } : MethodName) ∈ a_GT := a_inT (a_t_6 (List.mem_of_getElem? (i := 187) (by decide +kernel))) rfl
theorem k_1389 : Cond.instanceMethod ({ cls := "ShareTicketsModel", name := "lent", desc := "(II)I" } : MethodName) ∈ a_GT := a_inT (a_t_6 (List.mem_of_getElem? (i := 189) (by decide +kernel))) rfl
theorem k_1390 : Cond.code ({ cls := "ShareTicketsModel", name := "lent", desc := "(II)I" } : MethodName) prog_12_method_40_code (3 : Nat) (Option.some ClassFile.FieldType.int) ∈ a_GT := a_inT (a_t_6 (List.mem_of_getElem? (i := 190) (by decide +kernel))) rfl
theorem k_1391 : Cond.methodLink "ShareTicketsModel" (237 : Nat) ({ cls := "ShareTicketsModel", name := "bestWaiting", desc := "()I" } : MethodName) ∈ a_GT := a_inT (a_t_6 (List.mem_of_getElem? (i := 191) (by decide +kernel))) rfl
theorem k_1393 : Cond.instanceMethod ({ cls := "ShareTicketsModel", name := "bestWaiting", desc := "()I" } : MethodName) ∈ a_GT := a_inT (a_t_6 (List.mem_of_getElem? (i := 193) (by decide +kernel))) rfl
theorem k_1394 : Cond.code ({ cls := "ShareTicketsModel", name := "bestWaiting", desc := "()I" } : MethodName) prog_12_method_51_code (7 : Nat) (Option.some ClassFile.FieldType.int) ∈ a_GT := a_inT (a_t_6 (List.mem_of_getElem? (i := 194) (by decide +kernel))) rfl
theorem k_1395 : Cond.methodLink "ShareTicketsModel" (223 : Nat) ({ cls := "ShareTicketsModel", name := "jobWorth", desc := "(I)J" } : MethodName) ∈ a_GT := a_inT (a_t_6 (List.mem_of_getElem? (i := 195) (by decide +kernel))) rfl
theorem k_1397 : Cond.instanceMethod ({ cls := "ShareTicketsModel", name := "jobWorth", desc := "(I)J" } : MethodName) ∈ a_GT := a_inT (a_t_6 (List.mem_of_getElem? (i := 197) (by decide +kernel))) rfl
theorem k_1398 : Cond.code ({ cls := "ShareTicketsModel", name := "jobWorth", desc := "(I)J" } : MethodName) prog_12_method_50_code (3 : Nat) (Option.some ClassFile.FieldType.long) ∈ a_GT := a_inT (a_t_6 (List.mem_of_getElem? (i := 198) (by decide +kernel))) rfl
theorem k_1399 : Cond.methodLink "ShareTicketsModel" (216 : Nat) ({ cls := "ShareTicketsModel", name := "loadOf", desc := "(I)I" } : MethodName) ∈ a_GT := a_inT (a_t_6 (List.mem_of_getElem? (i := 199) (by decide +kernel))) rfl
theorem k_1401 : Cond.instanceMethod ({ cls := "ShareTicketsModel", name := "loadOf", desc := "(I)I" } : MethodName) ∈ a_GT := a_inT (a_t_6 (List.mem_of_getElem? (i := 201) (by decide +kernel))) rfl
theorem k_1402 : Cond.code ({ cls := "ShareTicketsModel", name := "loadOf", desc := "(I)I" } : MethodName) prog_12_method_49_code (4 : Nat) (Option.some ClassFile.FieldType.int) ∈ a_GT := a_inT (a_t_6 (List.mem_of_getElem? (i := 202) (by decide +kernel))) rfl
theorem k_1403 : Cond.methodLink "ShareTicketsModel" (219 : Nat) ({ cls := "ShareTicketsModel", name := "worthOf", desc := "(II)J" } : MethodName) ∈ a_GT := a_inT (a_t_6 (List.mem_of_getElem? (i := 203) (by decide +kernel))) rfl
theorem k_1405 : Cond.instanceMethod ({ cls := "ShareTicketsModel", name := "worthOf", desc := "(II)J" } : MethodName) ∈ a_GT := a_inT (a_t_6 (List.mem_of_getElem? (i := 205) (by decide +kernel))) rfl
theorem k_1406 : Cond.code ({ cls := "ShareTicketsModel", name := "worthOf", desc := "(II)J" } : MethodName) prog_12_method_48_code (3 : Nat) (Option.some ClassFile.FieldType.long) ∈ a_GT := a_inT (a_t_6 (List.mem_of_getElem? (i := 206) (by decide +kernel))) rfl
theorem k_1407 : Cond.constantLong "ShareTicketsModel" (214 : Nat) (1000 : Int64) ∈ a_GT := a_inT (a_t_6 (List.mem_of_getElem? (i := 207) (by decide +kernel))) rfl
theorem k_1408 : Cond.methodLink "ShareTicketsModel" (240 : Nat) ({ cls := "ShareTicketsModel", name := "freeMachine", desc := "()I" } : MethodName) ∈ a_GT := a_inT (a_t_6 (List.mem_of_getElem? (i := 208) (by decide +kernel))) rfl
theorem k_1410 : Cond.instanceMethod ({ cls := "ShareTicketsModel", name := "freeMachine", desc := "()I" } : MethodName) ∈ a_GT := a_inT (a_t_6 (List.mem_of_getElem? (i := 210) (by decide +kernel))) rfl
theorem k_1411 : Cond.code ({ cls := "ShareTicketsModel", name := "freeMachine", desc := "()I" } : MethodName) prog_12_method_60_code (2 : Nat) (Option.some ClassFile.FieldType.int) ∈ a_GT := a_inT (a_t_6 (List.mem_of_getElem? (i := 211) (by decide +kernel))) rfl
theorem k_1412 : Cond.methodLink "ShareTicketsModel" (230 : Nat) ({ cls := "ShareTicketsModel", name := "runningOn", desc := "(I)I" } : MethodName) ∈ a_GT := a_inT (a_t_6 (List.mem_of_getElem? (i := 212) (by decide +kernel))) rfl
theorem k_1414 : Cond.instanceMethod ({ cls := "ShareTicketsModel", name := "runningOn", desc := "(I)I" } : MethodName) ∈ a_GT := a_inT (a_t_6 (List.mem_of_getElem? (i := 214) (by decide +kernel))) rfl
theorem k_1415 : Cond.code ({ cls := "ShareTicketsModel", name := "runningOn", desc := "(I)I" } : MethodName) prog_12_method_59_code (4 : Nat) (Option.some ClassFile.FieldType.int) ∈ a_GT := a_inT (a_t_6 (List.mem_of_getElem? (i := 215) (by decide +kernel))) rfl
theorem k_1416 : Cond.methodLink "ShareTicketsModel" (243 : Nat) ({ cls := "ShareTicketsModel", name := "runs", desc := "(II)V" } : MethodName) ∈ a_GT := a_inT (a_t_6 (List.mem_of_getElem? (i := 216) (by decide +kernel))) rfl
theorem k_1418 : Cond.instanceMethod ({ cls := "ShareTicketsModel", name := "runs", desc := "(II)V" } : MethodName) ∈ a_GT := a_inT (a_t_6 (List.mem_of_getElem? (i := 218) (by decide +kernel))) rfl
theorem k_1419 : Cond.code ({ cls := "ShareTicketsModel", name := "runs", desc := "(II)V" } : MethodName) prog_12_method_63_code (3 : Nat) (Option.none : Option ClassFile.FieldType) ∈ a_GT := a_inT (a_t_6 (List.mem_of_getElem? (i := 219) (by decide +kernel))) rfl
theorem k_1420 : Cond.methodLink "ShareTicketsModel" (169 : Nat) ({ cls := "ShareTicketsModel", name := "keeps", desc := "()V" } : MethodName) ∈ a_GT := a_inT (a_t_6 (List.mem_of_getElem? (i := 220) (by decide +kernel))) rfl
theorem k_1422 : Cond.instanceMethod ({ cls := "ShareTicketsModel", name := "keeps", desc := "()V" } : MethodName) ∈ a_GT := a_inT (a_t_6 (List.mem_of_getElem? (i := 222) (by decide +kernel))) rfl
theorem k_1423 : Cond.code ({ cls := "ShareTicketsModel", name := "keeps", desc := "()V" } : MethodName) prog_12_method_6_code (2 : Nat) (Option.none : Option ClassFile.FieldType) ∈ a_GT := a_inT (a_t_6 (List.mem_of_getElem? (i := 223) (by decide +kernel))) rfl
theorem k_1424 : Cond.methodLink "ShareTicketsLaw" (117 : Nat) ({ cls := "ShareTicketsModel", name := "errorPosition", desc := "()I" } : MethodName) ∈ a_GT := a_inT (a_t_6 (List.mem_of_getElem? (i := 224) (by decide +kernel))) rfl
theorem k_1425 : Cond.instanceMethod ({ cls := "ShareTicketsModel", name := "errorPosition", desc := "()I" } : MethodName) ∈ a_GT := a_inT (a_t_6 (List.mem_of_getElem? (i := 225) (by decide +kernel))) rfl
theorem k_1426 : Cond.selects "ShareTicketsModel" ({ cls := "ShareTicketsModel", name := "errorPosition", desc := "()I" } : MethodName) ({ cls := "ShareTicketsModel", name := "errorPosition", desc := "()I" } : MethodName) ∈ a_GT := a_inT (a_t_6 (List.mem_of_getElem? (i := 226) (by decide +kernel))) rfl
theorem k_1427 : Cond.code ({ cls := "ShareTicketsModel", name := "errorPosition", desc := "()I" } : MethodName) prog_12_method_24_code (1 : Nat) (Option.some ClassFile.FieldType.int) ∈ a_GT := a_inT (a_t_6 (List.mem_of_getElem? (i := 227) (by decide +kernel))) rfl
theorem k_1428 : Cond.methodLink "ShareTicketsLaw" (124 : Nat) ({ cls := "ShareTicketsModel", name := "user", desc := "(II)I" } : MethodName) ∈ a_GT := a_inT (a_t_6 (List.mem_of_getElem? (i := 228) (by decide +kernel))) rfl
theorem k_1429 : Cond.instanceMethod ({ cls := "ShareTicketsModel", name := "user", desc := "(II)I" } : MethodName) ∈ a_GT := a_inT (a_t_6 (List.mem_of_getElem? (i := 229) (by decide +kernel))) rfl
theorem k_1430 : Cond.selects "ShareTicketsModel" ({ cls := "ShareTicketsModel", name := "user", desc := "(II)I" } : MethodName) ({ cls := "ShareTicketsModel", name := "user", desc := "(II)I" } : MethodName) ∈ a_GT := a_inT (a_t_6 (List.mem_of_getElem? (i := 230) (by decide +kernel))) rfl
theorem k_1431 : Cond.code ({ cls := "ShareTicketsModel", name := "user", desc := "(II)I" } : MethodName) prog_12_method_37_code (3 : Nat) (Option.some ClassFile.FieldType.int) ∈ a_GT := a_inT (a_t_6 (List.mem_of_getElem? (i := 231) (by decide +kernel))) rfl
theorem k_1432 : Cond.methodLink "ShareTicketsModel" (192 : Nat) ({ cls := "ShareTicketsModel", name := "isUser", desc := "(I)Z" } : MethodName) ∈ a_GT := a_inT (a_t_6 (List.mem_of_getElem? (i := 232) (by decide +kernel))) rfl
theorem k_1434 : Cond.instanceMethod ({ cls := "ShareTicketsModel", name := "isUser", desc := "(I)Z" } : MethodName) ∈ a_GT := a_inT (a_t_6 (List.mem_of_getElem? (i := 234) (by decide +kernel))) rfl
theorem k_1435 : Cond.code ({ cls := "ShareTicketsModel", name := "isUser", desc := "(I)Z" } : MethodName) prog_12_method_25_code (2 : Nat) (Option.some ClassFile.FieldType.boolean) ∈ a_GT := a_inT (a_t_6 (List.mem_of_getElem? (i := 235) (by decide +kernel))) rfl
theorem k_1436 : Cond.methodLink "ShareTicketsModel" (198 : Nat) ({ cls := "ShareTicketsModel", name := "useOf", desc := "(I)I" } : MethodName) ∈ a_GT := a_inT (a_t_6 (List.mem_of_getElem? (i := 236) (by decide +kernel))) rfl
theorem k_1438 : Cond.instanceMethod ({ cls := "ShareTicketsModel", name := "useOf", desc := "(I)I" } : MethodName) ∈ a_GT := a_inT (a_t_6 (List.mem_of_getElem? (i := 238) (by decide +kernel))) rfl
theorem k_1439 : Cond.code ({ cls := "ShareTicketsModel", name := "useOf", desc := "(I)I" } : MethodName) prog_12_method_35_code (4 : Nat) (Option.some ClassFile.FieldType.int) ∈ a_GT := a_inT (a_t_6 (List.mem_of_getElem? (i := 239) (by decide +kernel))) rfl
theorem k_1440 : Cond.methodLink "ShareTicketsModel" (188 : Nat) ({ cls := "ShareTicketsModel", name := "isBelow", desc := "(II)Z" } : MethodName) ∈ a_GT := a_inT (a_t_7 (List.mem_of_getElem? (i := 0) (by decide +kernel))) rfl
theorem k_1442 : Cond.instanceMethod ({ cls := "ShareTicketsModel", name := "isBelow", desc := "(II)Z" } : MethodName) ∈ a_GT := a_inT (a_t_7 (List.mem_of_getElem? (i := 2) (by decide +kernel))) rfl
theorem k_1443 : Cond.code ({ cls := "ShareTicketsModel", name := "isBelow", desc := "(II)Z" } : MethodName) prog_12_method_34_code (4 : Nat) (Option.some ClassFile.FieldType.boolean) ∈ a_GT := a_inT (a_t_7 (List.mem_of_getElem? (i := 3) (by decide +kernel))) rfl
theorem k_1444 : Cond.methodLink "ShareTicketsModel" (201 : Nat) ({ cls := "ShareTicketsModel", name := "jobsOf", desc := "(II)I" } : MethodName) ∈ a_GT := a_inT (a_t_7 (List.mem_of_getElem? (i := 4) (by decide +kernel))) rfl
theorem k_1446 : Cond.instanceMethod ({ cls := "ShareTicketsModel", name := "jobsOf", desc := "(II)I" } : MethodName) ∈ a_GT := a_inT (a_t_7 (List.mem_of_getElem? (i := 6) (by decide +kernel))) rfl
theorem k_1447 : Cond.code ({ cls := "ShareTicketsModel", name := "jobsOf", desc := "(II)I" } : MethodName) prog_12_method_36_code (5 : Nat) (Option.some ClassFile.FieldType.int) ∈ a_GT := a_inT (a_t_7 (List.mem_of_getElem? (i := 7) (by decide +kernel))) rfl
theorem k_1448 : Cond.methodLink "ShareTicketsLaw" (127 : Nat) ({ cls := "ShareTicketsModel", name := "addUser", desc := "(II)I" } : MethodName) ∈ a_GT := a_inT (a_t_7 (List.mem_of_getElem? (i := 8) (by decide +kernel))) rfl
theorem k_1449 : Cond.instanceMethod ({ cls := "ShareTicketsModel", name := "addUser", desc := "(II)I" } : MethodName) ∈ a_GT := a_inT (a_t_7 (List.mem_of_getElem? (i := 9) (by decide +kernel))) rfl
theorem k_1450 : Cond.selects "ShareTicketsModel" ({ cls := "ShareTicketsModel", name := "addUser", desc := "(II)I" } : MethodName) ({ cls := "ShareTicketsModel", name := "addUser", desc := "(II)I" } : MethodName) ∈ a_GT := a_inT (a_t_7 (List.mem_of_getElem? (i := 10) (by decide +kernel))) rfl
theorem k_1451 : Cond.code ({ cls := "ShareTicketsModel", name := "addUser", desc := "(II)I" } : MethodName) prog_12_method_38_code (3 : Nat) (Option.some ClassFile.FieldType.int) ∈ a_GT := a_inT (a_t_7 (List.mem_of_getElem? (i := 11) (by decide +kernel))) rfl
theorem k_1452 : Cond.methodLink "ShareTicketsModel" (204 : Nat) ({ cls := "ShareTicketsModel", name := "hasLoan", desc := "(I)Z" } : MethodName) ∈ a_GT := a_inT (a_t_7 (List.mem_of_getElem? (i := 12) (by decide +kernel))) rfl
theorem k_1454 : Cond.instanceMethod ({ cls := "ShareTicketsModel", name := "hasLoan", desc := "(I)Z" } : MethodName) ∈ a_GT := a_inT (a_t_7 (List.mem_of_getElem? (i := 14) (by decide +kernel))) rfl
theorem k_1455 : Cond.code ({ cls := "ShareTicketsModel", name := "hasLoan", desc := "(I)Z" } : MethodName) prog_12_method_29_code (4 : Nat) (Option.some ClassFile.FieldType.boolean) ∈ a_GT := a_inT (a_t_7 (List.mem_of_getElem? (i := 15) (by decide +kernel))) rfl
theorem k_1456 : Cond.methodLink "ShareTicketsLaw" (130 : Nat) ({ cls := "ShareTicketsModel", name := "setShares", desc := "(II)I" } : MethodName) ∈ a_GT := a_inT (a_t_7 (List.mem_of_getElem? (i := 16) (by decide +kernel))) rfl
theorem k_1457 : Cond.instanceMethod ({ cls := "ShareTicketsModel", name := "setShares", desc := "(II)I" } : MethodName) ∈ a_GT := a_inT (a_t_7 (List.mem_of_getElem? (i := 17) (by decide +kernel))) rfl
theorem k_1458 : Cond.selects "ShareTicketsModel" ({ cls := "ShareTicketsModel", name := "setShares", desc := "(II)I" } : MethodName) ({ cls := "ShareTicketsModel", name := "setShares", desc := "(II)I" } : MethodName) ∈ a_GT := a_inT (a_t_7 (List.mem_of_getElem? (i := 18) (by decide +kernel))) rfl
theorem k_1459 : Cond.code ({ cls := "ShareTicketsModel", name := "setShares", desc := "(II)I" } : MethodName) prog_12_method_39_code (4 : Nat) (Option.some ClassFile.FieldType.int) ∈ a_GT := a_inT (a_t_7 (List.mem_of_getElem? (i := 19) (by decide +kernel))) rfl
theorem k_1460 : Cond.methodLink "ShareTicketsLaw" (134 : Nat) ({ cls := "ShareTicketsModel", name := "lend", desc := "(IIII)I" } : MethodName) ∈ a_GT := a_inT (a_t_7 (List.mem_of_getElem? (i := 20) (by decide +kernel))) rfl
theorem k_1461 : Cond.instanceMethod ({ cls := "ShareTicketsModel", name := "lend", desc := "(IIII)I" } : MethodName) ∈ a_GT := a_inT (a_t_7 (List.mem_of_getElem? (i := 21) (by decide +kernel))) rfl
theorem k_1462 : Cond.selects "ShareTicketsModel" ({ cls := "ShareTicketsModel", name := "lend", desc := "(IIII)I" } : MethodName) ({ cls := "ShareTicketsModel", name := "lend", desc := "(IIII)I" } : MethodName) ∈ a_GT := a_inT (a_t_7 (List.mem_of_getElem? (i := 22) (by decide +kernel))) rfl
theorem k_1463 : Cond.code ({ cls := "ShareTicketsModel", name := "lend", desc := "(IIII)I" } : MethodName) prog_12_method_42_code (7 : Nat) (Option.some ClassFile.FieldType.int) ∈ a_GT := a_inT (a_t_7 (List.mem_of_getElem? (i := 23) (by decide +kernel))) rfl
theorem k_1464 : Cond.constant "ShareTicketsModel" (207 : Nat) (500000 : Int32) ∈ a_GT := a_inT (a_t_7 (List.mem_of_getElem? (i := 24) (by decide +kernel))) rfl
theorem k_1465 : Cond.methodLink "ShareTicketsModel" (208 : Nat) ({ cls := "ShareTicketsModel", name := "cannotLend", desc := "(III)Z" } : MethodName) ∈ a_GT := a_inT (a_t_7 (List.mem_of_getElem? (i := 25) (by decide +kernel))) rfl
theorem k_1467 : Cond.instanceMethod ({ cls := "ShareTicketsModel", name := "cannotLend", desc := "(III)Z" } : MethodName) ∈ a_GT := a_inT (a_t_7 (List.mem_of_getElem? (i := 27) (by decide +kernel))) rfl
theorem k_1468 : Cond.code ({ cls := "ShareTicketsModel", name := "cannotLend", desc := "(III)Z" } : MethodName) prog_12_method_41_code (4 : Nat) (Option.some ClassFile.FieldType.boolean) ∈ a_GT := a_inT (a_t_7 (List.mem_of_getElem? (i := 28) (by decide +kernel))) rfl
theorem k_1469 : Cond.methodLink "ShareTicketsLaw" (137 : Nat) ({ cls := "ShareTicketsModel", name := "loan", desc := "(II)I" } : MethodName) ∈ a_GT := a_inT (a_t_7 (List.mem_of_getElem? (i := 29) (by decide +kernel))) rfl
theorem k_1470 : Cond.instanceMethod ({ cls := "ShareTicketsModel", name := "loan", desc := "(II)I" } : MethodName) ∈ a_GT := a_inT (a_t_7 (List.mem_of_getElem? (i := 30) (by decide +kernel))) rfl
theorem k_1471 : Cond.selects "ShareTicketsModel" ({ cls := "ShareTicketsModel", name := "loan", desc := "(II)I" } : MethodName) ({ cls := "ShareTicketsModel", name := "loan", desc := "(II)I" } : MethodName) ∈ a_GT := a_inT (a_t_7 (List.mem_of_getElem? (i := 31) (by decide +kernel))) rfl
theorem k_1472 : Cond.code ({ cls := "ShareTicketsModel", name := "loan", desc := "(II)I" } : MethodName) prog_12_method_44_code (3 : Nat) (Option.some ClassFile.FieldType.int) ∈ a_GT := a_inT (a_t_7 (List.mem_of_getElem? (i := 32) (by decide +kernel))) rfl
theorem k_1473 : Cond.methodLink "ShareTicketsModel" (211 : Nat) ({ cls := "ShareTicketsModel", name := "goneAt", desc := "(I)I" } : MethodName) ∈ a_GT := a_inT (a_t_7 (List.mem_of_getElem? (i := 33) (by decide +kernel))) rfl
theorem k_1475 : Cond.instanceMethod ({ cls := "ShareTicketsModel", name := "goneAt", desc := "(I)I" } : MethodName) ∈ a_GT := a_inT (a_t_7 (List.mem_of_getElem? (i := 35) (by decide +kernel))) rfl
theorem k_1476 : Cond.code ({ cls := "ShareTicketsModel", name := "goneAt", desc := "(I)I" } : MethodName) prog_12_method_43_code (2 : Nat) (Option.some ClassFile.FieldType.int) ∈ a_GT := a_inT (a_t_7 (List.mem_of_getElem? (i := 36) (by decide +kernel))) rfl
theorem k_1477 : Cond.methodLink "ShareTicketsLaw" (140 : Nat) ({ cls := "ShareTicketsModel", name := "balance", desc := "(I)I" } : MethodName) ∈ a_GT := a_inT (a_t_7 (List.mem_of_getElem? (i := 37) (by decide +kernel))) rfl
theorem k_1478 : Cond.instanceMethod ({ cls := "ShareTicketsModel", name := "balance", desc := "(I)I" } : MethodName) ∈ a_GT := a_inT (a_t_7 (List.mem_of_getElem? (i := 38) (by decide +kernel))) rfl
theorem k_1479 : Cond.selects "ShareTicketsModel" ({ cls := "ShareTicketsModel", name := "balance", desc := "(I)I" } : MethodName) ({ cls := "ShareTicketsModel", name := "balance", desc := "(I)I" } : MethodName) ∈ a_GT := a_inT (a_t_7 (List.mem_of_getElem? (i := 39) (by decide +kernel))) rfl
theorem k_1480 : Cond.code ({ cls := "ShareTicketsModel", name := "balance", desc := "(I)I" } : MethodName) prog_12_method_46_code (8 : Nat) (Option.some ClassFile.FieldType.int) ∈ a_GT := a_inT (a_t_7 (List.mem_of_getElem? (i := 40) (by decide +kernel))) rfl
theorem k_1481 : Cond.methodLink "ShareTicketsLaw" (143 : Nat) ({ cls := "ShareTicketsModel", name := "ranked", desc := "(I)I" } : MethodName) ∈ a_GT := a_inT (a_t_7 (List.mem_of_getElem? (i := 41) (by decide +kernel))) rfl
theorem k_1482 : Cond.instanceMethod ({ cls := "ShareTicketsModel", name := "ranked", desc := "(I)I" } : MethodName) ∈ a_GT := a_inT (a_t_7 (List.mem_of_getElem? (i := 42) (by decide +kernel))) rfl
theorem k_1483 : Cond.selects "ShareTicketsModel" ({ cls := "ShareTicketsModel", name := "ranked", desc := "(I)I" } : MethodName) ({ cls := "ShareTicketsModel", name := "ranked", desc := "(I)I" } : MethodName) ∈ a_GT := a_inT (a_t_7 (List.mem_of_getElem? (i := 43) (by decide +kernel))) rfl
theorem k_1484 : Cond.code ({ cls := "ShareTicketsModel", name := "ranked", desc := "(I)I" } : MethodName) prog_12_method_53_code (7 : Nat) (Option.some ClassFile.FieldType.int) ∈ a_GT := a_inT (a_t_7 (List.mem_of_getElem? (i := 44) (by decide +kernel))) rfl
theorem k_1485 : Cond.methodLink "ShareTicketsLaw" (146 : Nat) ({ cls := "ShareTicketsModel", name := "worth", desc := "(II)J" } : MethodName) ∈ a_GT := a_inT (a_t_7 (List.mem_of_getElem? (i := 45) (by decide +kernel))) rfl
theorem k_1486 : Cond.instanceMethod ({ cls := "ShareTicketsModel", name := "worth", desc := "(II)J" } : MethodName) ∈ a_GT := a_inT (a_t_7 (List.mem_of_getElem? (i := 46) (by decide +kernel))) rfl
theorem k_1487 : Cond.selects "ShareTicketsModel" ({ cls := "ShareTicketsModel", name := "worth", desc := "(II)J" } : MethodName) ({ cls := "ShareTicketsModel", name := "worth", desc := "(II)J" } : MethodName) ∈ a_GT := a_inT (a_t_7 (List.mem_of_getElem? (i := 47) (by decide +kernel))) rfl
theorem k_1488 : Cond.code ({ cls := "ShareTicketsModel", name := "worth", desc := "(II)J" } : MethodName) prog_12_method_54_code (3 : Nat) (Option.some ClassFile.FieldType.long) ∈ a_GT := a_inT (a_t_7 (List.mem_of_getElem? (i := 48) (by decide +kernel))) rfl
theorem k_1489 : Cond.methodLink "ShareTicketsLaw" (149 : Nat) ({ cls := "ShareTicketsModel", name := "machine", desc := "(II)I" } : MethodName) ∈ a_GT := a_inT (a_t_7 (List.mem_of_getElem? (i := 49) (by decide +kernel))) rfl
theorem k_1490 : Cond.instanceMethod ({ cls := "ShareTicketsModel", name := "machine", desc := "(II)I" } : MethodName) ∈ a_GT := a_inT (a_t_7 (List.mem_of_getElem? (i := 50) (by decide +kernel))) rfl
theorem k_1491 : Cond.selects "ShareTicketsModel" ({ cls := "ShareTicketsModel", name := "machine", desc := "(II)I" } : MethodName) ({ cls := "ShareTicketsModel", name := "machine", desc := "(II)I" } : MethodName) ∈ a_GT := a_inT (a_t_7 (List.mem_of_getElem? (i := 51) (by decide +kernel))) rfl
theorem k_1492 : Cond.code ({ cls := "ShareTicketsModel", name := "machine", desc := "(II)I" } : MethodName) prog_12_method_67_code (3 : Nat) (Option.some ClassFile.FieldType.int) ∈ a_GT := a_inT (a_t_7 (List.mem_of_getElem? (i := 52) (by decide +kernel))) rfl
theorem k_1493 : Cond.methodLink "ShareTicketsModel" (254 : Nat) ({ cls := "ShareTicketsModel", name := "isMachine", desc := "(I)Z" } : MethodName) ∈ a_GT := a_inT (a_t_7 (List.mem_of_getElem? (i := 53) (by decide +kernel))) rfl
theorem k_1495 : Cond.instanceMethod ({ cls := "ShareTicketsModel", name := "isMachine", desc := "(I)Z" } : MethodName) ∈ a_GT := a_inT (a_t_7 (List.mem_of_getElem? (i := 55) (by decide +kernel))) rfl
theorem k_1496 : Cond.code ({ cls := "ShareTicketsModel", name := "isMachine", desc := "(I)Z" } : MethodName) prog_12_method_55_code (2 : Nat) (Option.some ClassFile.FieldType.boolean) ∈ a_GT := a_inT (a_t_7 (List.mem_of_getElem? (i := 56) (by decide +kernel))) rfl
theorem k_1497 : Cond.methodLink "ShareTicketsModel" (246 : Nat) ({ cls := "ShareTicketsModel", name := "leastRunning", desc := "(I)I" } : MethodName) ∈ a_GT := a_inT (a_t_7 (List.mem_of_getElem? (i := 57) (by decide +kernel))) rfl
theorem k_1499 : Cond.instanceMethod ({ cls := "ShareTicketsModel", name := "leastRunning", desc := "(I)I" } : MethodName) ∈ a_GT := a_inT (a_t_7 (List.mem_of_getElem? (i := 59) (by decide +kernel))) rfl
theorem k_1500 : Cond.code ({ cls := "ShareTicketsModel", name := "leastRunning", desc := "(I)I" } : MethodName) prog_12_method_52_code (8 : Nat) (Option.some ClassFile.FieldType.int) ∈ a_GT := a_inT (a_t_7 (List.mem_of_getElem? (i := 60) (by decide +kernel))) rfl
theorem k_1501 : Cond.methodLink "ShareTicketsLaw" (152 : Nat) ({ cls := "ShareTicketsModel", name := "job", desc := "(II)I" } : MethodName) ∈ a_GT := a_inT (a_t_7 (List.mem_of_getElem? (i := 61) (by decide +kernel))) rfl
theorem k_1502 : Cond.instanceMethod ({ cls := "ShareTicketsModel", name := "job", desc := "(II)I" } : MethodName) ∈ a_GT := a_inT (a_t_7 (List.mem_of_getElem? (i := 62) (by decide +kernel))) rfl
theorem k_1503 : Cond.selects "ShareTicketsModel" ({ cls := "ShareTicketsModel", name := "job", desc := "(II)I" } : MethodName) ({ cls := "ShareTicketsModel", name := "job", desc := "(II)I" } : MethodName) ∈ a_GT := a_inT (a_t_7 (List.mem_of_getElem? (i := 63) (by decide +kernel))) rfl
theorem k_1504 : Cond.code ({ cls := "ShareTicketsModel", name := "job", desc := "(II)I" } : MethodName) prog_12_method_68_code (3 : Nat) (Option.some ClassFile.FieldType.int) ∈ a_GT := a_inT (a_t_7 (List.mem_of_getElem? (i := 64) (by decide +kernel))) rfl
theorem k_1505 : Cond.methodLink "ShareTicketsModel" (257 : Nat) ({ cls := "ShareTicketsModel", name := "isJob", desc := "(I)Z" } : MethodName) ∈ a_GT := a_inT (a_t_7 (List.mem_of_getElem? (i := 65) (by decide +kernel))) rfl
theorem k_1507 : Cond.instanceMethod ({ cls := "ShareTicketsModel", name := "isJob", desc := "(I)Z" } : MethodName) ∈ a_GT := a_inT (a_t_7 (List.mem_of_getElem? (i := 67) (by decide +kernel))) rfl
theorem k_1508 : Cond.code ({ cls := "ShareTicketsModel", name := "isJob", desc := "(I)Z" } : MethodName) prog_12_method_56_code (2 : Nat) (Option.some ClassFile.FieldType.boolean) ∈ a_GT := a_inT (a_t_7 (List.mem_of_getElem? (i := 68) (by decide +kernel))) rfl
theorem k_1509 : Cond.methodLink "ShareTicketsLaw" (156 : Nat) ({ cls := "ShareTicketsModel", name := "first", desc := "()I" } : MethodName) ∈ a_GT := a_inT (a_t_7 (List.mem_of_getElem? (i := 69) (by decide +kernel))) rfl
theorem k_1510 : Cond.instanceMethod ({ cls := "ShareTicketsModel", name := "first", desc := "()I" } : MethodName) ∈ a_GT := a_inT (a_t_7 (List.mem_of_getElem? (i := 70) (by decide +kernel))) rfl
theorem k_1511 : Cond.selects "ShareTicketsModel" ({ cls := "ShareTicketsModel", name := "first", desc := "()I" } : MethodName) ({ cls := "ShareTicketsModel", name := "first", desc := "()I" } : MethodName) ∈ a_GT := a_inT (a_t_7 (List.mem_of_getElem? (i := 71) (by decide +kernel))) rfl
theorem k_1512 : Cond.code ({ cls := "ShareTicketsModel", name := "first", desc := "()I" } : MethodName) prog_12_method_69_code (2 : Nat) (Option.some ClassFile.FieldType.int) ∈ a_GT := a_inT (a_t_7 (List.mem_of_getElem? (i := 72) (by decide +kernel))) rfl
theorem k_1513 : Cond.methodLink "ShareTicketsLaw" (159 : Nat) ({ cls := "ShareTicketsModel", name := "submit", desc := "(II)I" } : MethodName) ∈ a_GT := a_inT (a_t_7 (List.mem_of_getElem? (i := 73) (by decide +kernel))) rfl
theorem k_1514 : Cond.instanceMethod ({ cls := "ShareTicketsModel", name := "submit", desc := "(II)I" } : MethodName) ∈ a_GT := a_inT (a_t_7 (List.mem_of_getElem? (i := 74) (by decide +kernel))) rfl
theorem k_1515 : Cond.selects "ShareTicketsModel" ({ cls := "ShareTicketsModel", name := "submit", desc := "(II)I" } : MethodName) ({ cls := "ShareTicketsModel", name := "submit", desc := "(II)I" } : MethodName) ∈ a_GT := a_inT (a_t_7 (List.mem_of_getElem? (i := 75) (by decide +kernel))) rfl
theorem k_1516 : Cond.code ({ cls := "ShareTicketsModel", name := "submit", desc := "(II)I" } : MethodName) prog_12_method_71_code (3 : Nat) (Option.some ClassFile.FieldType.int) ∈ a_GT := a_inT (a_t_7 (List.mem_of_getElem? (i := 76) (by decide +kernel))) rfl
theorem k_1517 : Cond.methodLink "ShareTicketsLaw" (162 : Nat) ({ cls := "ShareTicketsModel", name := "cancel", desc := "(I)I" } : MethodName) ∈ a_GT := a_inT (a_t_7 (List.mem_of_getElem? (i := 77) (by decide +kernel))) rfl
theorem k_1518 : Cond.instanceMethod ({ cls := "ShareTicketsModel", name := "cancel", desc := "(I)I" } : MethodName) ∈ a_GT := a_inT (a_t_7 (List.mem_of_getElem? (i := 78) (by decide +kernel))) rfl
theorem k_1519 : Cond.selects "ShareTicketsModel" ({ cls := "ShareTicketsModel", name := "cancel", desc := "(I)I" } : MethodName) ({ cls := "ShareTicketsModel", name := "cancel", desc := "(I)I" } : MethodName) ∈ a_GT := a_inT (a_t_7 (List.mem_of_getElem? (i := 79) (by decide +kernel))) rfl
theorem k_1520 : Cond.code ({ cls := "ShareTicketsModel", name := "cancel", desc := "(I)I" } : MethodName) prog_12_method_73_code (2 : Nat) (Option.some ClassFile.FieldType.int) ∈ a_GT := a_inT (a_t_7 (List.mem_of_getElem? (i := 80) (by decide +kernel))) rfl
theorem k_1521 : Cond.methodLink "ShareTicketsModel" (260 : Nat) ({ cls := "ShareTicketsModel", name := "ends", desc := "(II)V" } : MethodName) ∈ a_GT := a_inT (a_t_7 (List.mem_of_getElem? (i := 81) (by decide +kernel))) rfl
theorem k_1523 : Cond.instanceMethod ({ cls := "ShareTicketsModel", name := "ends", desc := "(II)V" } : MethodName) ∈ a_GT := a_inT (a_t_7 (List.mem_of_getElem? (i := 83) (by decide +kernel))) rfl
theorem k_1524 : Cond.code ({ cls := "ShareTicketsModel", name := "ends", desc := "(II)V" } : MethodName) prog_12_method_72_code (3 : Nat) (Option.none : Option ClassFile.FieldType) ∈ a_GT := a_inT (a_t_7 (List.mem_of_getElem? (i := 84) (by decide +kernel))) rfl
theorem k_1525 : Cond.methodLink "ShareTicketsLaw" (166 : Nat) ({ cls := "ShareTicketsModel", name := "setUp", desc := "(IZ)I" } : MethodName) ∈ a_GT := a_inT (a_t_7 (List.mem_of_getElem? (i := 85) (by decide +kernel))) rfl
theorem k_1526 : Cond.instanceMethod ({ cls := "ShareTicketsModel", name := "setUp", desc := "(IZ)I" } : MethodName) ∈ a_GT := a_inT (a_t_7 (List.mem_of_getElem? (i := 86) (by decide +kernel))) rfl
theorem k_1527 : Cond.selects "ShareTicketsModel" ({ cls := "ShareTicketsModel", name := "setUp", desc := "(IZ)I" } : MethodName) ({ cls := "ShareTicketsModel", name := "setUp", desc := "(IZ)I" } : MethodName) ∈ a_GT := a_inT (a_t_7 (List.mem_of_getElem? (i := 87) (by decide +kernel))) rfl
theorem k_1528 : Cond.code ({ cls := "ShareTicketsModel", name := "setUp", desc := "(IZ)I" } : MethodName) prog_12_method_74_code (5 : Nat) (Option.some ClassFile.FieldType.int) ∈ a_GT := a_inT (a_t_7 (List.mem_of_getElem? (i := 88) (by decide +kernel))) rfl
theorem k_1529 : Cond.methodLink "ShareTicketsModel" (251 : Nat) ({ cls := "ShareTicketsModel", name := "interrupts", desc := "(I)V" } : MethodName) ∈ a_GT := a_inT (a_t_7 (List.mem_of_getElem? (i := 89) (by decide +kernel))) rfl
theorem k_1531 : Cond.instanceMethod ({ cls := "ShareTicketsModel", name := "interrupts", desc := "(I)V" } : MethodName) ∈ a_GT := a_inT (a_t_7 (List.mem_of_getElem? (i := 91) (by decide +kernel))) rfl
theorem k_1532 : Cond.code ({ cls := "ShareTicketsModel", name := "interrupts", desc := "(I)V" } : MethodName) prog_12_method_64_code (3 : Nat) (Option.none : Option ClassFile.FieldType) ∈ a_GT := a_inT (a_t_7 (List.mem_of_getElem? (i := 92) (by decide +kernel))) rfl
theorem k_1533 : Cond.methodLink "ShareTicketsLaw" (169 : Nat) ({ cls := "ShareTicketsModel", name := "set", desc := "(II)I" } : MethodName) ∈ a_GT := a_inT (a_t_7 (List.mem_of_getElem? (i := 93) (by decide +kernel))) rfl
theorem k_1534 : Cond.instanceMethod ({ cls := "ShareTicketsModel", name := "set", desc := "(II)I" } : MethodName) ∈ a_GT := a_inT (a_t_7 (List.mem_of_getElem? (i := 94) (by decide +kernel))) rfl
theorem k_1535 : Cond.selects "ShareTicketsModel" ({ cls := "ShareTicketsModel", name := "set", desc := "(II)I" } : MethodName) ({ cls := "ShareTicketsModel", name := "set", desc := "(II)I" } : MethodName) ∈ a_GT := a_inT (a_t_7 (List.mem_of_getElem? (i := 95) (by decide +kernel))) rfl
theorem k_1536 : Cond.code ({ cls := "ShareTicketsModel", name := "set", desc := "(II)I" } : MethodName) prog_12_method_77_code (4 : Nat) (Option.some ClassFile.FieldType.int) ∈ a_GT := a_inT (a_t_7 (List.mem_of_getElem? (i := 96) (by decide +kernel))) rfl
theorem k_1537 : Cond.methodLink "ShareTicketsLaw" (120 : Nat) ({ cls := "ShareTicketsModel", name := "count", desc := "(I)I" } : MethodName) ∈ a_GT := a_inT (a_t_7 (List.mem_of_getElem? (i := 97) (by decide +kernel))) rfl
theorem k_1538 : Cond.instanceMethod ({ cls := "ShareTicketsModel", name := "count", desc := "(I)I" } : MethodName) ∈ a_GT := a_inT (a_t_7 (List.mem_of_getElem? (i := 98) (by decide +kernel))) rfl
theorem k_1539 : Cond.selects "ShareTicketsModel" ({ cls := "ShareTicketsModel", name := "count", desc := "(I)I" } : MethodName) ({ cls := "ShareTicketsModel", name := "count", desc := "(I)I" } : MethodName) ∈ a_GT := a_inT (a_t_7 (List.mem_of_getElem? (i := 99) (by decide +kernel))) rfl
theorem k_1540 : Cond.code ({ cls := "ShareTicketsModel", name := "count", desc := "(I)I" } : MethodName) prog_12_method_78_code (2 : Nat) (Option.some ClassFile.FieldType.int) ∈ a_GT := a_inT (a_t_7 (List.mem_of_getElem? (i := 100) (by decide +kernel))) rfl
theorem k_1541 : Cond.methodLink "ShareTicketsModel" (263 : Nat) ({ cls := "ShareTicketsModel", name := "inState", desc := "(I)I" } : MethodName) ∈ a_GT := a_inT (a_t_7 (List.mem_of_getElem? (i := 101) (by decide +kernel))) rfl
theorem k_1543 : Cond.instanceMethod ({ cls := "ShareTicketsModel", name := "inState", desc := "(I)I" } : MethodName) ∈ a_GT := a_inT (a_t_7 (List.mem_of_getElem? (i := 103) (by decide +kernel))) rfl
theorem k_1544 : Cond.code ({ cls := "ShareTicketsModel", name := "inState", desc := "(I)I" } : MethodName) prog_12_method_62_code (4 : Nat) (Option.some ClassFile.FieldType.int) ∈ a_GT := a_inT (a_t_7 (List.mem_of_getElem? (i := 104) (by decide +kernel))) rfl
theorem k_1545 : Cond.methodLink "ShareTicketsModel" (266 : Nat) ({ cls := "ShareTicketsModel", name := "freeSlots", desc := "()I" } : MethodName) ∈ a_GT := a_inT (a_t_7 (List.mem_of_getElem? (i := 105) (by decide +kernel))) rfl
theorem k_1547 : Cond.instanceMethod ({ cls := "ShareTicketsModel", name := "freeSlots", desc := "()I" } : MethodName) ∈ a_GT := a_inT (a_t_7 (List.mem_of_getElem? (i := 107) (by decide +kernel))) rfl
theorem k_1548 : Cond.code ({ cls := "ShareTicketsModel", name := "freeSlots", desc := "()I" } : MethodName) prog_12_method_61_code (3 : Nat) (Option.some ClassFile.FieldType.int) ∈ a_GT := a_inT (a_t_7 (List.mem_of_getElem? (i := 108) (by decide +kernel))) rfl
theorem k_1549 : Cond.methodLink "ShareTicketsLaw" (172 : Nat) ({ cls := "ShareTicketsModel", name := "tick", desc := "(I)I" } : MethodName) ∈ a_GT := a_inT (a_t_7 (List.mem_of_getElem? (i := 109) (by decide +kernel))) rfl
theorem k_1550 : Cond.instanceMethod ({ cls := "ShareTicketsModel", name := "tick", desc := "(I)I" } : MethodName) ∈ a_GT := a_inT (a_t_7 (List.mem_of_getElem? (i := 110) (by decide +kernel))) rfl
theorem k_1551 : Cond.selects "ShareTicketsModel" ({ cls := "ShareTicketsModel", name := "tick", desc := "(I)I" } : MethodName) ({ cls := "ShareTicketsModel", name := "tick", desc := "(I)I" } : MethodName) ∈ a_GT := a_inT (a_t_7 (List.mem_of_getElem? (i := 111) (by decide +kernel))) rfl
theorem k_1552 : Cond.code ({ cls := "ShareTicketsModel", name := "tick", desc := "(I)I" } : MethodName) prog_12_method_80_code (4 : Nat) (Option.some ClassFile.FieldType.int) ∈ a_GT := a_inT (a_t_7 (List.mem_of_getElem? (i := 112) (by decide +kernel))) rfl
theorem k_1553 : Cond.methodLink "ShareTicketsModel" (275 : Nat) ({ cls := "ShareTicketsModel", name := "ticksOnce", desc := "()I" } : MethodName) ∈ a_GT := a_inT (a_t_7 (List.mem_of_getElem? (i := 113) (by decide +kernel))) rfl
theorem k_1555 : Cond.instanceMethod ({ cls := "ShareTicketsModel", name := "ticksOnce", desc := "()I" } : MethodName) ∈ a_GT := a_inT (a_t_7 (List.mem_of_getElem? (i := 115) (by decide +kernel))) rfl
theorem k_1556 : Cond.code ({ cls := "ShareTicketsModel", name := "ticksOnce", desc := "()I" } : MethodName) prog_12_method_79_code (3 : Nat) (Option.some ClassFile.FieldType.int) ∈ a_GT := a_inT (a_t_7 (List.mem_of_getElem? (i := 116) (by decide +kernel))) rfl
theorem k_1557 : Cond.methodLink "ShareTicketsModel" (269 : Nat) ({ cls := "ShareTicketsModel", name := "endsLoans", desc := "()V" } : MethodName) ∈ a_GT := a_inT (a_t_7 (List.mem_of_getElem? (i := 117) (by decide +kernel))) rfl
theorem k_1559 : Cond.instanceMethod ({ cls := "ShareTicketsModel", name := "endsLoans", desc := "()V" } : MethodName) ∈ a_GT := a_inT (a_t_7 (List.mem_of_getElem? (i := 119) (by decide +kernel))) rfl
theorem k_1560 : Cond.code ({ cls := "ShareTicketsModel", name := "endsLoans", desc := "()V" } : MethodName) prog_12_method_45_code (3 : Nat) (Option.none : Option ClassFile.FieldType) ∈ a_GT := a_inT (a_t_7 (List.mem_of_getElem? (i := 120) (by decide +kernel))) rfl
theorem k_1561 : Cond.methodLink "ShareTicketsModel" (272 : Nat) ({ cls := "ShareTicketsModel", name := "preempts", desc := "()V" } : MethodName) ∈ a_GT := a_inT (a_t_7 (List.mem_of_getElem? (i := 121) (by decide +kernel))) rfl
theorem k_1563 : Cond.instanceMethod ({ cls := "ShareTicketsModel", name := "preempts", desc := "()V" } : MethodName) ∈ a_GT := a_inT (a_t_7 (List.mem_of_getElem? (i := 123) (by decide +kernel))) rfl
theorem k_1564 : Cond.code ({ cls := "ShareTicketsModel", name := "preempts", desc := "()V" } : MethodName) prog_12_method_66_code (4 : Nat) (Option.none : Option ClassFile.FieldType) ∈ a_GT := a_inT (a_t_7 (List.mem_of_getElem? (i := 124) (by decide +kernel))) rfl
theorem k_1565 : Cond.constantLong "ShareTicketsModel" (249 : Nat) (100 : Int64) ∈ a_GT := a_inT (a_t_7 (List.mem_of_getElem? (i := 125) (by decide +kernel))) rfl
theorem k_1566 : Cond.methodLink "ShareTicketsLaw" (175 : Nat) ({ cls := "ShareTicketsModel", name := "finishedIn", desc := "(I)I" } : MethodName) ∈ a_GT := a_inT (a_t_7 (List.mem_of_getElem? (i := 126) (by decide +kernel))) rfl
theorem k_1567 : Cond.instanceMethod ({ cls := "ShareTicketsModel", name := "finishedIn", desc := "(I)I" } : MethodName) ∈ a_GT := a_inT (a_t_7 (List.mem_of_getElem? (i := 127) (by decide +kernel))) rfl
theorem k_1568 : Cond.selects "ShareTicketsModel" ({ cls := "ShareTicketsModel", name := "finishedIn", desc := "(I)I" } : MethodName) ({ cls := "ShareTicketsModel", name := "finishedIn", desc := "(I)I" } : MethodName) ∈ a_GT := a_inT (a_t_7 (List.mem_of_getElem? (i := 128) (by decide +kernel))) rfl
theorem k_1569 : Cond.code ({ cls := "ShareTicketsModel", name := "finishedIn", desc := "(I)I" } : MethodName) prog_12_method_81_code (4 : Nat) (Option.some ClassFile.FieldType.int) ∈ a_GT := a_inT (a_t_7 (List.mem_of_getElem? (i := 129) (by decide +kernel))) rfl
theorem k_1570 : Cond.methodLink "ShareTicketsLaw" (178 : Nat) ({ cls := "ShareTicketsModel", name := "ahead", desc := "(II)I" } : MethodName) ∈ a_GT := a_inT (a_t_7 (List.mem_of_getElem? (i := 130) (by decide +kernel))) rfl
theorem k_1571 : Cond.instanceMethod ({ cls := "ShareTicketsModel", name := "ahead", desc := "(II)I" } : MethodName) ∈ a_GT := a_inT (a_t_7 (List.mem_of_getElem? (i := 131) (by decide +kernel))) rfl
theorem k_1572 : Cond.selects "ShareTicketsModel" ({ cls := "ShareTicketsModel", name := "ahead", desc := "(II)I" } : MethodName) ({ cls := "ShareTicketsModel", name := "ahead", desc := "(II)I" } : MethodName) ∈ a_GT := a_inT (a_t_7 (List.mem_of_getElem? (i := 132) (by decide +kernel))) rfl
theorem k_1573 : Cond.code ({ cls := "ShareTicketsModel", name := "ahead", desc := "(II)I" } : MethodName) prog_12_method_82_code (4 : Nat) (Option.some ClassFile.FieldType.int) ∈ a_GT := a_inT (a_t_7 (List.mem_of_getElem? (i := 133) (by decide +kernel))) rfl
theorem k_1574 : Cond.methodLink "ShareTicketsLaw" (182 : Nat) ({ cls := "ShareTicketsModel", name := "drift", desc := "()I" } : MethodName) ∈ a_GT := a_inT (a_t_7 (List.mem_of_getElem? (i := 134) (by decide +kernel))) rfl
theorem k_1575 : Cond.instanceMethod ({ cls := "ShareTicketsModel", name := "drift", desc := "()I" } : MethodName) ∈ a_GT := a_inT (a_t_7 (List.mem_of_getElem? (i := 135) (by decide +kernel))) rfl
theorem k_1576 : Cond.selects "ShareTicketsModel" ({ cls := "ShareTicketsModel", name := "drift", desc := "()I" } : MethodName) ({ cls := "ShareTicketsModel", name := "drift", desc := "()I" } : MethodName) ∈ a_GT := a_inT (a_t_7 (List.mem_of_getElem? (i := 136) (by decide +kernel))) rfl
theorem k_1577 : Cond.code ({ cls := "ShareTicketsModel", name := "drift", desc := "()I" } : MethodName) prog_12_method_84_code (3 : Nat) (Option.some ClassFile.FieldType.int) ∈ a_GT := a_inT (a_t_7 (List.mem_of_getElem? (i := 137) (by decide +kernel))) rfl
theorem k_1578 : Cond.methodLink "ShareTicketsModel" (283 : Nat) ({ cls := "ShareTicketsModel", name := "lackOf", desc := "(I)I" } : MethodName) ∈ a_GT := a_inT (a_t_7 (List.mem_of_getElem? (i := 138) (by decide +kernel))) rfl
theorem k_1580 : Cond.instanceMethod ({ cls := "ShareTicketsModel", name := "lackOf", desc := "(I)I" } : MethodName) ∈ a_GT := a_inT (a_t_7 (List.mem_of_getElem? (i := 140) (by decide +kernel))) rfl
theorem k_1581 : Cond.code ({ cls := "ShareTicketsModel", name := "lackOf", desc := "(I)I" } : MethodName) prog_12_method_83_code (3 : Nat) (Option.some ClassFile.FieldType.int) ∈ a_GT := a_inT (a_t_7 (List.mem_of_getElem? (i := 141) (by decide +kernel))) rfl
theorem k_1582 : Cond.constantLong "ShareTicketsModel" (281 : Nat) (1000000 : Int64) ∈ a_GT := a_inT (a_t_7 (List.mem_of_getElem? (i := 142) (by decide +kernel))) rfl
theorem k_1583 : Cond.methodLink "ShareTicketsLaw" (186 : Nat) ({ cls := "ShareTicketsModel", name := "part", desc := "(I)F" } : MethodName) ∈ a_GT := a_inT (a_t_7 (List.mem_of_getElem? (i := 143) (by decide +kernel))) rfl
theorem k_1584 : Cond.instanceMethod ({ cls := "ShareTicketsModel", name := "part", desc := "(I)F" } : MethodName) ∈ a_GT := a_inT (a_t_7 (List.mem_of_getElem? (i := 144) (by decide +kernel))) rfl
theorem k_1585 : Cond.selects "ShareTicketsModel" ({ cls := "ShareTicketsModel", name := "part", desc := "(I)F" } : MethodName) ({ cls := "ShareTicketsModel", name := "part", desc := "(I)F" } : MethodName) ∈ a_GT := a_inT (a_t_7 (List.mem_of_getElem? (i := 145) (by decide +kernel))) rfl
theorem k_1586 : Cond.code ({ cls := "ShareTicketsModel", name := "part", desc := "(I)F" } : MethodName) prog_12_method_85_code (2 : Nat) (Option.some ClassFile.FieldType.float) ∈ a_GT := a_inT (a_t_7 (List.mem_of_getElem? (i := 146) (by decide +kernel))) rfl
theorem k_1587 : Cond.methodLink "ShareTicketsLaw" (190 : Nat) ({ cls := "ShareTicketsModel", name := "neediest", desc := "()I" } : MethodName) ∈ a_GT := a_inT (a_t_7 (List.mem_of_getElem? (i := 147) (by decide +kernel))) rfl
theorem k_1588 : Cond.instanceMethod ({ cls := "ShareTicketsModel", name := "neediest", desc := "()I" } : MethodName) ∈ a_GT := a_inT (a_t_7 (List.mem_of_getElem? (i := 148) (by decide +kernel))) rfl
theorem k_1589 : Cond.selects "ShareTicketsModel" ({ cls := "ShareTicketsModel", name := "neediest", desc := "()I" } : MethodName) ({ cls := "ShareTicketsModel", name := "neediest", desc := "()I" } : MethodName) ∈ a_GT := a_inT (a_t_7 (List.mem_of_getElem? (i := 149) (by decide +kernel))) rfl
theorem k_1590 : Cond.code ({ cls := "ShareTicketsModel", name := "neediest", desc := "()I" } : MethodName) prog_12_method_86_code (3 : Nat) (Option.some ClassFile.FieldType.int) ∈ a_GT := a_inT (a_t_7 (List.mem_of_getElem? (i := 150) (by decide +kernel))) rfl
theorem k_1591 : Cond.methodLink "ShareTicketsLaw" (194 : Nat) ({ cls := "ShareTicketsModel", name := "writeMachines", desc := "()I" } : MethodName) ∈ a_GT := a_inT (a_t_7 (List.mem_of_getElem? (i := 151) (by decide +kernel))) rfl
theorem k_1592 : Cond.instanceMethod ({ cls := "ShareTicketsModel", name := "writeMachines", desc := "()I" } : MethodName) ∈ a_GT := a_inT (a_t_7 (List.mem_of_getElem? (i := 152) (by decide +kernel))) rfl
theorem k_1593 : Cond.selects "ShareTicketsModel" ({ cls := "ShareTicketsModel", name := "writeMachines", desc := "()I" } : MethodName) ({ cls := "ShareTicketsModel", name := "writeMachines", desc := "()I" } : MethodName) ∈ a_GT := a_inT (a_t_7 (List.mem_of_getElem? (i := 153) (by decide +kernel))) rfl
theorem k_1594 : Cond.code ({ cls := "ShareTicketsModel", name := "writeMachines", desc := "()I" } : MethodName) prog_12_method_89_code (2 : Nat) (Option.some ClassFile.FieldType.int) ∈ a_GT := a_inT (a_t_7 (List.mem_of_getElem? (i := 154) (by decide +kernel))) rfl
theorem k_1595 : Cond.methodLink "ShareTicketsModel" (289 : Nat) ({ cls := "ShareTicketsModel", name := "says", desc := "(I)V" } : MethodName) ∈ a_GT := a_inT (a_t_7 (List.mem_of_getElem? (i := 155) (by decide +kernel))) rfl
theorem k_1597 : Cond.instanceMethod ({ cls := "ShareTicketsModel", name := "says", desc := "(I)V" } : MethodName) ∈ a_GT := a_inT (a_t_7 (List.mem_of_getElem? (i := 157) (by decide +kernel))) rfl
theorem k_1598 : Cond.code ({ cls := "ShareTicketsModel", name := "says", desc := "(I)V" } : MethodName) prog_12_method_87_code (2 : Nat) (Option.none : Option ClassFile.FieldType) ∈ a_GT := a_inT (a_t_7 (List.mem_of_getElem? (i := 158) (by decide +kernel))) rfl
theorem k_1599 : Cond.methodLink "ShareTicketsModel" (292 : Nat) ({ cls := "ShareTicketsModel", name := "saysJobs", desc := "(I)V" } : MethodName) ∈ a_GT := a_inT (a_t_7 (List.mem_of_getElem? (i := 159) (by decide +kernel))) rfl
theorem k_1601 : Cond.instanceMethod ({ cls := "ShareTicketsModel", name := "saysJobs", desc := "(I)V" } : MethodName) ∈ a_GT := a_inT (a_t_7 (List.mem_of_getElem? (i := 161) (by decide +kernel))) rfl
theorem k_1602 : Cond.code ({ cls := "ShareTicketsModel", name := "saysJobs", desc := "(I)V" } : MethodName) prog_12_method_88_code (4 : Nat) (Option.none : Option ClassFile.FieldType) ∈ a_GT := a_inT (a_t_7 (List.mem_of_getElem? (i := 162) (by decide +kernel))) rfl
theorem k_1603 : Cond.methodLink "ShareTicketsLaw" (197 : Nat) ({ cls := "ShareTicketsModel", name := "writtenByte", desc := "(I)I" } : MethodName) ∈ a_GT := a_inT (a_t_7 (List.mem_of_getElem? (i := 163) (by decide +kernel))) rfl
theorem k_1604 : Cond.instanceMethod ({ cls := "ShareTicketsModel", name := "writtenByte", desc := "(I)I" } : MethodName) ∈ a_GT := a_inT (a_t_7 (List.mem_of_getElem? (i := 164) (by decide +kernel))) rfl
theorem k_1605 : Cond.selects "ShareTicketsModel" ({ cls := "ShareTicketsModel", name := "writtenByte", desc := "(I)I" } : MethodName) ({ cls := "ShareTicketsModel", name := "writtenByte", desc := "(I)I" } : MethodName) ∈ a_GT := a_inT (a_t_7 (List.mem_of_getElem? (i := 165) (by decide +kernel))) rfl
theorem k_1606 : Cond.code ({ cls := "ShareTicketsModel", name := "writtenByte", desc := "(I)I" } : MethodName) prog_12_method_90_code (2 : Nat) (Option.some ClassFile.FieldType.int) ∈ a_GT := a_inT (a_t_7 (List.mem_of_getElem? (i := 166) (by decide +kernel))) rfl
theorem k_1607 : Cond.arrayClass ClassFile.FieldType.double ∈ a_GT := a_inT (a_t_7 (List.mem_of_getElem? (i := 167) (by decide +kernel))) rfl
theorem k_1608 : Cond.sameMethod "java/lang/Throwable" "java/lang/Throwable" "fillInStackTrace" "(I)Ljava/lang/Throwable;" ∈ a_GT := a_inT (a_t_7 (List.mem_of_getElem? (i := 168) (by decide +kernel))) rfl
theorem g_1609 : Cond.castable "ShareTickets" "java/lang/Object" ∈ a_GN := a_inN (a_t_7 (List.mem_of_getElem? (i := 169) (by decide +kernel))) rfl
theorem g_1610 : Cond.castable "ShareTickets$Place" "java/lang/Object" ∈ a_GN := a_inN (a_t_7 (List.mem_of_getElem? (i := 170) (by decide +kernel))) rfl
theorem g_1611 : Cond.castable "ShareTickets$Tree" "java/lang/Object" ∈ a_GN := a_inN (a_t_7 (List.mem_of_getElem? (i := 171) (by decide +kernel))) rfl
theorem g_1612 : Cond.castable "ShareTickets$Loans" "java/lang/Object" ∈ a_GN := a_inN (a_t_7 (List.mem_of_getElem? (i := 172) (by decide +kernel))) rfl
theorem g_1613 : Cond.castable "ShareTickets$Machines" "java/lang/Object" ∈ a_GN := a_inN (a_t_7 (List.mem_of_getElem? (i := 173) (by decide +kernel))) rfl
theorem g_1614 : Cond.castable "ShareTickets$Jobs" "java/lang/Object" ∈ a_GN := a_inN (a_t_7 (List.mem_of_getElem? (i := 174) (by decide +kernel))) rfl
theorem g_1615 : Cond.castable "ShareTickets$Scale" "java/lang/Object" ∈ a_GN := a_inN (a_t_7 (List.mem_of_getElem? (i := 175) (by decide +kernel))) rfl
theorem g_1616 : Cond.castable "ShareTickets$History" "java/lang/Object" ∈ a_GN := a_inN (a_t_7 (List.mem_of_getElem? (i := 176) (by decide +kernel))) rfl
theorem g_1617 : Cond.castable "ShareTickets$Text" "java/lang/Object" ∈ a_GN := a_inN (a_t_7 (List.mem_of_getElem? (i := 177) (by decide +kernel))) rfl
theorem g_1618 : Cond.castable "ShareTickets$Note" "java/lang/Object" ∈ a_GN := a_inN (a_t_7 (List.mem_of_getElem? (i := 178) (by decide +kernel))) rfl
theorem g_1619 : Cond.castable "ShareTicketsModel" "java/lang/Object" ∈ a_GN := a_inN (a_t_7 (List.mem_of_getElem? (i := 179) (by decide +kernel))) rfl
theorem g_1620 : Cond.castable "java/lang/IllegalStateException" "java/lang/Object" ∈ a_GN := a_inN (a_t_7 (List.mem_of_getElem? (i := 180) (by decide +kernel))) rfl
theorem g_1621 : Cond.castable "java/lang/IllegalArgumentException" "java/lang/Object" ∈ a_GN := a_inN (a_t_7 (List.mem_of_getElem? (i := 181) (by decide +kernel))) rfl
theorem g_1622 : Cond.castable "java/lang/IndexOutOfBoundsException" "java/lang/Object" ∈ a_GN := a_inN (a_t_7 (List.mem_of_getElem? (i := 182) (by decide +kernel))) rfl
theorem g_1623 : Cond.castable "java/util/NoSuchElementException" "java/lang/Object" ∈ a_GN := a_inN (a_t_7 (List.mem_of_getElem? (i := 183) (by decide +kernel))) rfl
theorem g_1624 : Cond.castable "java/lang/Throwable" "java/lang/Object" ∈ a_GN := a_inN (a_t_7 (List.mem_of_getElem? (i := 184) (by decide +kernel))) rfl
theorem g_1625 : Cond.castable "java/lang/String" "java/lang/Object" ∈ a_GN := a_inN (a_t_7 (List.mem_of_getElem? (i := 185) (by decide +kernel))) rfl
theorem k_1626 : Cond.fieldLink "java/lang/String" (9 : Nat) "java/lang/String" "value" "[B" ∈ a_GT := a_inT (a_t_7 (List.mem_of_getElem? (i := 186) (by decide +kernel))) rfl
theorem k_1627 : Cond.fieldLink "java/lang/String" (15 : Nat) "java/lang/String" "coder" "B" ∈ a_GT := a_inT (a_t_7 (List.mem_of_getElem? (i := 187) (by decide +kernel))) rfl
end
