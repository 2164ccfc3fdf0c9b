section
-- ===== PART A: goes FIRST, ahead of the names: the tables' words, and 'selects' of the private methods out of them =====
/-- a private method of a class that the tables say can be made, by its rows of tables_1 -/
def lw_okq (q : MethodName × Nat) : Prop := (q.1.cls ≠ "java/lang/invoke/MethodHandle" ∧ q.1.cls ≠ "java/lang/invoke/VarHandle") ∧ Cond.instantiable q.1.cls q.2 ∈ tables_1 ∧ Cond.privateMethod q.1 ∈ tables_1 ∧ Cond.instanceMethod q.1 ∈ tables_1
theorem lw_p0 : lw_okq (⟨"ShareTickets$Tree", "isUnder", "(II)Z"⟩, 5) := ⟨⟨by decide +kernel, by decide +kernel⟩, List.mem_of_getElem? (i := 40) (by decide +kernel), List.mem_of_getElem? (i := 386) (by decide +kernel), List.mem_of_getElem? (i := 387) (by decide +kernel)⟩
theorem lw_p1 : lw_okq (⟨"ShareTickets$Note", "putNumber", "(I)V"⟩, 2) := ⟨⟨by decide +kernel, by decide +kernel⟩, List.mem_of_getElem? (i := 335) (by decide +kernel), List.mem_of_getElem? (i := 440) (by decide +kernel), List.mem_of_getElem? (i := 441) (by decide +kernel)⟩
theorem lw_p2 : lw_okq (⟨"java/lang/Throwable", "fillInStackTrace", "(I)Ljava/lang/Throwable;"⟩, 6) := ⟨⟨by decide +kernel, by decide +kernel⟩, List.mem_of_getElem? (i := 491) (by decide +kernel), List.mem_of_getElem? (i := 489) (by decide +kernel), List.mem_of_getElem? (i := 490) (by decide +kernel)⟩
theorem lw_p3 : lw_okq (⟨"ShareTickets$Text", "isOver", "()Z"⟩, 7) := ⟨⟨by decide +kernel, by decide +kernel⟩, List.mem_of_getElem? (i := 303) (by decide +kernel), List.mem_of_getElem? (i := 556) (by decide +kernel), List.mem_of_getElem? (i := 557) (by decide +kernel)⟩
theorem lw_p4 : lw_okq (⟨"ShareTickets$Text", "skipSpaces", "()V"⟩, 7) := ⟨⟨by decide +kernel, by decide +kernel⟩, List.mem_of_getElem? (i := 303) (by decide +kernel), List.mem_of_getElem? (i := 560) (by decide +kernel), List.mem_of_getElem? (i := 561) (by decide +kernel)⟩
theorem lw_p5 : lw_okq (⟨"ShareTickets$Text", "byteAt", "(I)I"⟩, 7) := ⟨⟨by decide +kernel, by decide +kernel⟩, List.mem_of_getElem? (i := 303) (by decide +kernel), List.mem_of_getElem? (i := 564) (by decide +kernel), List.mem_of_getElem? (i := 565) (by decide +kernel)⟩
theorem lw_p6 : lw_okq (⟨"ShareTickets$Text", "readStatement", "(LShareTickets$Place;)V"⟩, 7) := ⟨⟨by decide +kernel, by decide +kernel⟩, List.mem_of_getElem? (i := 303) (by decide +kernel), List.mem_of_getElem? (i := 568) (by decide +kernel), List.mem_of_getElem? (i := 569) (by decide +kernel)⟩
theorem lw_p7 : lw_okq (⟨"ShareTickets$Text", "skipWord", "()V"⟩, 7) := ⟨⟨by decide +kernel, by decide +kernel⟩, List.mem_of_getElem? (i := 303) (by decide +kernel), List.mem_of_getElem? (i := 572) (by decide +kernel), List.mem_of_getElem? (i := 573) (by decide +kernel)⟩
theorem lw_p8 : lw_okq (⟨"ShareTickets$Text", "isWord", "(Ljava/lang/String;I)Z"⟩, 7) := ⟨⟨by decide +kernel, by decide +kernel⟩, List.mem_of_getElem? (i := 303) (by decide +kernel), List.mem_of_getElem? (i := 577) (by decide +kernel), List.mem_of_getElem? (i := 578) (by decide +kernel)⟩
theorem lw_p9 : lw_okq (⟨"ShareTickets$Text", "readUser", "(LShareTickets$Place;I)V"⟩, 7) := ⟨⟨by decide +kernel, by decide +kernel⟩, List.mem_of_getElem? (i := 303) (by decide +kernel), List.mem_of_getElem? (i := 629) (by decide +kernel), List.mem_of_getElem? (i := 630) (by decide +kernel)⟩
theorem lw_p10 : lw_okq (⟨"ShareTickets$Text", "fail", "(II)V"⟩, 7) := ⟨⟨by decide +kernel, by decide +kernel⟩, List.mem_of_getElem? (i := 303) (by decide +kernel), List.mem_of_getElem? (i := 637) (by decide +kernel), List.mem_of_getElem? (i := 638) (by decide +kernel)⟩
theorem lw_p11 : lw_okq (⟨"ShareTickets$Text", "readNumber", "(II)I"⟩, 7) := ⟨⟨by decide +kernel, by decide +kernel⟩, List.mem_of_getElem? (i := 303) (by decide +kernel), List.mem_of_getElem? (i := 641) (by decide +kernel), List.mem_of_getElem? (i := 642) (by decide +kernel)⟩
theorem lw_p12 : lw_okq (⟨"ShareTickets$Tree", "dealBase", "()V"⟩, 5) := ⟨⟨by decide +kernel, by decide +kernel⟩, List.mem_of_getElem? (i := 40) (by decide +kernel), List.mem_of_getElem? (i := 657) (by decide +kernel), List.mem_of_getElem? (i := 658) (by decide +kernel)⟩
theorem lw_p13 : lw_okq (⟨"ShareTickets$Tree", "sharesUnder", "(I)I"⟩, 5) := ⟨⟨by decide +kernel, by decide +kernel⟩, List.mem_of_getElem? (i := 40) (by decide +kernel), List.mem_of_getElem? (i := 661) (by decide +kernel), List.mem_of_getElem? (i := 662) (by decide +kernel)⟩
theorem lw_p14 : lw_okq (⟨"ShareTickets$Text", "readMachine", "(LShareTickets$Place;I)V"⟩, 7) := ⟨⟨by decide +kernel, by decide +kernel⟩, List.mem_of_getElem? (i := 303) (by decide +kernel), List.mem_of_getElem? (i := 666) (by decide +kernel), List.mem_of_getElem? (i := 667) (by decide +kernel)⟩
theorem lw_p15 : lw_okq (⟨"ShareTickets$Text", "readJob", "(LShareTickets$Place;I)V"⟩, 7) := ⟨⟨by decide +kernel, by decide +kernel⟩, List.mem_of_getElem? (i := 303) (by decide +kernel), List.mem_of_getElem? (i := 680) (by decide +kernel), List.mem_of_getElem? (i := 681) (by decide +kernel)⟩
def lw_privs_1 : List (MethodName × Nat) := [(⟨"ShareTickets$Tree", "isUnder", "(II)Z"⟩, 5), (⟨"ShareTickets$Note", "putNumber", "(I)V"⟩, 2), (⟨"java/lang/Throwable", "fillInStackTrace", "(I)Ljava/lang/Throwable;"⟩, 6), (⟨"ShareTickets$Text", "isOver", "()Z"⟩, 7), (⟨"ShareTickets$Text", "skipSpaces", "()V"⟩, 7), (⟨"ShareTickets$Text", "byteAt", "(I)I"⟩, 7), (⟨"ShareTickets$Text", "readStatement", "(LShareTickets$Place;)V"⟩, 7), (⟨"ShareTickets$Text", "skipWord", "()V"⟩, 7), (⟨"ShareTickets$Text", "isWord", "(Ljava/lang/String;I)Z"⟩, 7), (⟨"ShareTickets$Text", "readUser", "(LShareTickets$Place;I)V"⟩, 7), (⟨"ShareTickets$Text", "fail", "(II)V"⟩, 7), (⟨"ShareTickets$Text", "readNumber", "(II)I"⟩, 7), (⟨"ShareTickets$Tree", "dealBase", "()V"⟩, 5), (⟨"ShareTickets$Tree", "sharesUnder", "(I)I"⟩, 5), (⟨"ShareTickets$Text", "readMachine", "(LShareTickets$Place;I)V"⟩, 7), (⟨"ShareTickets$Text", "readJob", "(LShareTickets$Place;I)V"⟩, 7)]
theorem lw_r1 : ∀ q ∈ lw_privs_1, lw_okq q := List.forall_mem_cons.mpr ⟨lw_p0, List.forall_mem_cons.mpr ⟨lw_p1, List.forall_mem_cons.mpr ⟨lw_p2, List.forall_mem_cons.mpr ⟨lw_p3, List.forall_mem_cons.mpr ⟨lw_p4, List.forall_mem_cons.mpr ⟨lw_p5, List.forall_mem_cons.mpr ⟨lw_p6, List.forall_mem_cons.mpr ⟨lw_p7, List.forall_mem_cons.mpr ⟨lw_p8, List.forall_mem_cons.mpr ⟨lw_p9, List.forall_mem_cons.mpr ⟨lw_p10, List.forall_mem_cons.mpr ⟨lw_p11, List.forall_mem_cons.mpr ⟨lw_p12, List.forall_mem_cons.mpr ⟨lw_p13, List.forall_mem_cons.mpr ⟨lw_p14, List.forall_mem_cons.mpr ⟨lw_p15, fun _ h => absurd h List.not_mem_nil⟩⟩⟩⟩⟩⟩⟩⟩⟩⟩⟩⟩⟩⟩⟩⟩
theorem lw_p16 : lw_okq (⟨"ShareTickets$Text", "readSetting", "(LShareTickets$Place;I)V"⟩, 7) := ⟨⟨by decide +kernel, by decide +kernel⟩, List.mem_of_getElem? (i := 303) (by decide +kernel), List.mem_of_getElem? (i := 695) (by decide +kernel), List.mem_of_getElem? (i := 696) (by decide +kernel)⟩
theorem lw_p17 : lw_okq (⟨"ShareTickets$Text", "readSemicolon", "()V"⟩, 7) := ⟨⟨by decide +kernel, by decide +kernel⟩, List.mem_of_getElem? (i := 303) (by decide +kernel), List.mem_of_getElem? (i := 705) (by decide +kernel), List.mem_of_getElem? (i := 706) (by decide +kernel)⟩
theorem lw_p18 : lw_okq (⟨"ShareTickets$Scale", "countJobs", "(LShareTickets$Place;)V"⟩, 6) := ⟨⟨by decide +kernel, by decide +kernel⟩, List.mem_of_getElem? (i := 182) (by decide +kernel), List.mem_of_getElem? (i := 747) (by decide +kernel), List.mem_of_getElem? (i := 748) (by decide +kernel)⟩
theorem lw_p19 : lw_okq (⟨"ShareTickets$Scale", "dealTickets", "(LShareTickets$Place;)V"⟩, 6) := ⟨⟨by decide +kernel, by decide +kernel⟩, List.mem_of_getElem? (i := 182) (by decide +kernel), List.mem_of_getElem? (i := 753) (by decide +kernel), List.mem_of_getElem? (i := 754) (by decide +kernel)⟩
theorem lw_p20 : lw_okq (⟨"ShareTickets$Loans", "dueAt", "(I)I"⟩, 6) := ⟨⟨by decide +kernel, by decide +kernel⟩, List.mem_of_getElem? (i := 78) (by decide +kernel), List.mem_of_getElem? (i := 762) (by decide +kernel), List.mem_of_getElem? (i := 763) (by decide +kernel)⟩
theorem lw_p21 : lw_okq (⟨"ShareTickets$Scale", "weigh", "(LShareTickets$Tree;I)V"⟩, 6) := ⟨⟨by decide +kernel, by decide +kernel⟩, List.mem_of_getElem? (i := 182) (by decide +kernel), List.mem_of_getElem? (i := 773) (by decide +kernel), List.mem_of_getElem? (i := 774) (by decide +kernel)⟩
theorem lw_p22 : lw_okq (⟨"ShareTickets$Place", "fillSlots", "()V"⟩, 9) := ⟨⟨by decide +kernel, by decide +kernel⟩, List.mem_of_getElem? (i := 34) (by decide +kernel), List.mem_of_getElem? (i := 781) (by decide +kernel), List.mem_of_getElem? (i := 782) (by decide +kernel)⟩
theorem lw_p23 : lw_okq (⟨"ShareTickets$Place", "freeMachine", "()I"⟩, 9) := ⟨⟨by decide +kernel, by decide +kernel⟩, List.mem_of_getElem? (i := 34) (by decide +kernel), List.mem_of_getElem? (i := 785) (by decide +kernel), List.mem_of_getElem? (i := 786) (by decide +kernel)⟩
theorem lw_p24 : lw_okq (⟨"ShareTickets$Place", "startJob", "(II)V"⟩, 9) := ⟨⟨by decide +kernel, by decide +kernel⟩, List.mem_of_getElem? (i := 34) (by decide +kernel), List.mem_of_getElem? (i := 798) (by decide +kernel), List.mem_of_getElem? (i := 799) (by decide +kernel)⟩
theorem lw_p25 : lw_okq (⟨"ShareTickets", "needUser", "(I)V"⟩, 5) := ⟨⟨by decide +kernel, by decide +kernel⟩, List.mem_of_getElem? (i := 26) (by decide +kernel), List.mem_of_getElem? (i := 835) (by decide +kernel), List.mem_of_getElem? (i := 836) (by decide +kernel)⟩
theorem lw_p26 : lw_okq (⟨"ShareTickets", "needLeaf", "(I)V"⟩, 5) := ⟨⟨by decide +kernel, by decide +kernel⟩, List.mem_of_getElem? (i := 26) (by decide +kernel), List.mem_of_getElem? (i := 899) (by decide +kernel), List.mem_of_getElem? (i := 900) (by decide +kernel)⟩
theorem lw_p27 : lw_okq (⟨"ShareTickets$Place", "leavesBefore", "(I)I"⟩, 9) := ⟨⟨by decide +kernel, by decide +kernel⟩, List.mem_of_getElem? (i := 34) (by decide +kernel), List.mem_of_getElem? (i := 954) (by decide +kernel), List.mem_of_getElem? (i := 955) (by decide +kernel)⟩
theorem lw_p28 : lw_okq (⟨"ShareTickets", "needMachine", "(I)V"⟩, 5) := ⟨⟨by decide +kernel, by decide +kernel⟩, List.mem_of_getElem? (i := 26) (by decide +kernel), List.mem_of_getElem? (i := 974) (by decide +kernel), List.mem_of_getElem? (i := 975) (by decide +kernel)⟩
theorem lw_p29 : lw_okq (⟨"ShareTickets", "needJob", "(I)V"⟩, 5) := ⟨⟨by decide +kernel, by decide +kernel⟩, List.mem_of_getElem? (i := 26) (by decide +kernel), List.mem_of_getElem? (i := 998) (by decide +kernel), List.mem_of_getElem? (i := 999) (by decide +kernel)⟩
theorem lw_p30 : lw_okq (⟨"ShareTickets", "needOpen", "(I)V"⟩, 5) := ⟨⟨by decide +kernel, by decide +kernel⟩, List.mem_of_getElem? (i := 26) (by decide +kernel), List.mem_of_getElem? (i := 1047) (by decide +kernel), List.mem_of_getElem? (i := 1048) (by decide +kernel)⟩
theorem lw_p31 : lw_okq (⟨"ShareTickets$Place", "interruptJob", "(I)V"⟩, 9) := ⟨⟨by decide +kernel, by decide +kernel⟩, List.mem_of_getElem? (i := 34) (by decide +kernel), List.mem_of_getElem? (i := 1075) (by decide +kernel), List.mem_of_getElem? (i := 1076) (by decide +kernel)⟩
def lw_privs_2 : List (MethodName × Nat) := [(⟨"ShareTickets$Text", "readSetting", "(LShareTickets$Place;I)V"⟩, 7), (⟨"ShareTickets$Text", "readSemicolon", "()V"⟩, 7), (⟨"ShareTickets$Scale", "countJobs", "(LShareTickets$Place;)V"⟩, 6), (⟨"ShareTickets$Scale", "dealTickets", "(LShareTickets$Place;)V"⟩, 6), (⟨"ShareTickets$Loans", "dueAt", "(I)I"⟩, 6), (⟨"ShareTickets$Scale", "weigh", "(LShareTickets$Tree;I)V"⟩, 6), (⟨"ShareTickets$Place", "fillSlots", "()V"⟩, 9), (⟨"ShareTickets$Place", "freeMachine", "()I"⟩, 9), (⟨"ShareTickets$Place", "startJob", "(II)V"⟩, 9), (⟨"ShareTickets", "needUser", "(I)V"⟩, 5), (⟨"ShareTickets", "needLeaf", "(I)V"⟩, 5), (⟨"ShareTickets$Place", "leavesBefore", "(I)I"⟩, 9), (⟨"ShareTickets", "needMachine", "(I)V"⟩, 5), (⟨"ShareTickets", "needJob", "(I)V"⟩, 5), (⟨"ShareTickets", "needOpen", "(I)V"⟩, 5), (⟨"ShareTickets$Place", "interruptJob", "(I)V"⟩, 9)]
theorem lw_r2 : ∀ q ∈ lw_privs_2, lw_okq q := List.forall_mem_cons.mpr ⟨lw_p16, List.forall_mem_cons.mpr ⟨lw_p17, List.forall_mem_cons.mpr ⟨lw_p18, List.forall_mem_cons.mpr ⟨lw_p19, List.forall_mem_cons.mpr ⟨lw_p20, List.forall_mem_cons.mpr ⟨lw_p21, List.forall_mem_cons.mpr ⟨lw_p22, List.forall_mem_cons.mpr ⟨lw_p23, List.forall_mem_cons.mpr ⟨lw_p24, List.forall_mem_cons.mpr ⟨lw_p25, List.forall_mem_cons.mpr ⟨lw_p26, List.forall_mem_cons.mpr ⟨lw_p27, List.forall_mem_cons.mpr ⟨lw_p28, List.forall_mem_cons.mpr ⟨lw_p29, List.forall_mem_cons.mpr ⟨lw_p30, List.forall_mem_cons.mpr ⟨lw_p31, fun _ h => absurd h List.not_mem_nil⟩⟩⟩⟩⟩⟩⟩⟩⟩⟩⟩⟩⟩⟩⟩⟩
theorem lw_p32 : lw_okq (⟨"ShareTickets$Place", "keptWork", "(I)I"⟩, 9) := ⟨⟨by decide +kernel, by decide +kernel⟩, List.mem_of_getElem? (i := 34) (by decide +kernel), List.mem_of_getElem? (i := 1079) (by decide +kernel), List.mem_of_getElem? (i := 1080) (by decide +kernel)⟩
theorem lw_p33 : lw_okq (⟨"ShareTickets$Place", "workOn", "()V"⟩, 9) := ⟨⟨by decide +kernel, by decide +kernel⟩, List.mem_of_getElem? (i := 34) (by decide +kernel), List.mem_of_getElem? (i := 1109) (by decide +kernel), List.mem_of_getElem? (i := 1110) (by decide +kernel)⟩
theorem lw_p34 : lw_okq (⟨"ShareTickets$Place", "preemptJobs", "()V"⟩, 9) := ⟨⟨by decide +kernel, by decide +kernel⟩, List.mem_of_getElem? (i := 34) (by decide +kernel), List.mem_of_getElem? (i := 1126) (by decide +kernel), List.mem_of_getElem? (i := 1127) (by decide +kernel)⟩
theorem lw_p35 : lw_okq (⟨"ShareTickets$Place", "outweighs", "(II)Z"⟩, 9) := ⟨⟨by decide +kernel, by decide +kernel⟩, List.mem_of_getElem? (i := 34) (by decide +kernel), List.mem_of_getElem? (i := 1131) (by decide +kernel), List.mem_of_getElem? (i := 1132) (by decide +kernel)⟩
theorem lw_p36 : lw_okq (⟨"ShareTicketsModel", "begins", "()V"⟩, 20) := ⟨⟨by decide +kernel, by decide +kernel⟩, List.mem_of_getElem? (i := 1178) (by decide +kernel), List.mem_of_getElem? (i := 1184) (by decide +kernel), List.mem_of_getElem? (i := 1185) (by decide +kernel)⟩
theorem lw_p37 : lw_okq (⟨"ShareTicketsModel", "becomes", "([II)V"⟩, 20) := ⟨⟨by decide +kernel, by decide +kernel⟩, List.mem_of_getElem? (i := 1178) (by decide +kernel), List.mem_of_getElem? (i := 1188) (by decide +kernel), List.mem_of_getElem? (i := 1189) (by decide +kernel)⟩
theorem lw_p38 : lw_okq (⟨"ShareTicketsModel", "next", "()V"⟩, 20) := ⟨⟨by decide +kernel, by decide +kernel⟩, List.mem_of_getElem? (i := 1178) (by decide +kernel), List.mem_of_getElem? (i := 1275) (by decide +kernel), List.mem_of_getElem? (i := 1276) (by decide +kernel)⟩
theorem lw_p39 : lw_okq (⟨"ShareTicketsModel", "see", "(I)I"⟩, 20) := ⟨⟨by decide +kernel, by decide +kernel⟩, List.mem_of_getElem? (i := 1178) (by decide +kernel), List.mem_of_getElem? (i := 1279) (by decide +kernel), List.mem_of_getElem? (i := 1280) (by decide +kernel)⟩
theorem lw_p40 : lw_okq (⟨"ShareTicketsModel", "readsStatement", "()V"⟩, 20) := ⟨⟨by decide +kernel, by decide +kernel⟩, List.mem_of_getElem? (i := 1178) (by decide +kernel), List.mem_of_getElem? (i := 1289) (by decide +kernel), List.mem_of_getElem? (i := 1290) (by decide +kernel)⟩
theorem lw_p41 : lw_okq (⟨"ShareTicketsModel", "isWord", "(Ljava/lang/String;)Z"⟩, 20) := ⟨⟨by decide +kernel, by decide +kernel⟩, List.mem_of_getElem? (i := 1178) (by decide +kernel), List.mem_of_getElem? (i := 1294) (by decide +kernel), List.mem_of_getElem? (i := 1295) (by decide +kernel)⟩
theorem lw_p42 : lw_okq (⟨"ShareTicketsModel", "readsUser", "()V"⟩, 20) := ⟨⟨by decide +kernel, by decide +kernel⟩, List.mem_of_getElem? (i := 1178) (by decide +kernel), List.mem_of_getElem? (i := 1300) (by decide +kernel), List.mem_of_getElem? (i := 1301) (by decide +kernel)⟩
theorem lw_p43 : lw_okq (⟨"ShareTicketsModel", "fails", "(I)V"⟩, 20) := ⟨⟨by decide +kernel, by decide +kernel⟩, List.mem_of_getElem? (i := 1178) (by decide +kernel), List.mem_of_getElem? (i := 1304) (by decide +kernel), List.mem_of_getElem? (i := 1305) (by decide +kernel)⟩
theorem lw_p44 : lw_okq (⟨"ShareTicketsModel", "must", "(Z)V"⟩, 20) := ⟨⟨by decide +kernel, by decide +kernel⟩, List.mem_of_getElem? (i := 1178) (by decide +kernel), List.mem_of_getElem? (i := 1308) (by decide +kernel), List.mem_of_getElem? (i := 1309) (by decide +kernel)⟩
theorem lw_p45 : lw_okq (⟨"ShareTicketsModel", "hasJobs", "(I)Z"⟩, 20) := ⟨⟨by decide +kernel, by decide +kernel⟩, List.mem_of_getElem? (i := 1178) (by decide +kernel), List.mem_of_getElem? (i := 1312) (by decide +kernel), List.mem_of_getElem? (i := 1313) (by decide +kernel)⟩
theorem lw_p46 : lw_okq (⟨"ShareTicketsModel", "of", "(II)I"⟩, 20) := ⟨⟨by decide +kernel, by decide +kernel⟩, List.mem_of_getElem? (i := 1178) (by decide +kernel), List.mem_of_getElem? (i := 1316) (by decide +kernel), List.mem_of_getElem? (i := 1317) (by decide +kernel)⟩
theorem lw_p47 : lw_okq (⟨"ShareTicketsModel", "takes", "(II)I"⟩, 20) := ⟨⟨by decide +kernel, by decide +kernel⟩, List.mem_of_getElem? (i := 1178) (by decide +kernel), List.mem_of_getElem? (i := 1320) (by decide +kernel), List.mem_of_getElem? (i := 1321) (by decide +kernel)⟩
def lw_privs_3 : List (MethodName × Nat) := [(⟨"ShareTickets$Place", "keptWork", "(I)I"⟩, 9), (⟨"ShareTickets$Place", "workOn", "()V"⟩, 9), (⟨"ShareTickets$Place", "preemptJobs", "()V"⟩, 9), (⟨"ShareTickets$Place", "outweighs", "(II)Z"⟩, 9), (⟨"ShareTicketsModel", "begins", "()V"⟩, 20), (⟨"ShareTicketsModel", "becomes", "([II)V"⟩, 20), (⟨"ShareTicketsModel", "next", "()V"⟩, 20), (⟨"ShareTicketsModel", "see", "(I)I"⟩, 20), (⟨"ShareTicketsModel", "readsStatement", "()V"⟩, 20), (⟨"ShareTicketsModel", "isWord", "(Ljava/lang/String;)Z"⟩, 20), (⟨"ShareTicketsModel", "readsUser", "()V"⟩, 20), (⟨"ShareTicketsModel", "fails", "(I)V"⟩, 20), (⟨"ShareTicketsModel", "must", "(Z)V"⟩, 20), (⟨"ShareTicketsModel", "hasJobs", "(I)Z"⟩, 20), (⟨"ShareTicketsModel", "of", "(II)I"⟩, 20), (⟨"ShareTicketsModel", "takes", "(II)I"⟩, 20)]
theorem lw_r3 : ∀ q ∈ lw_privs_3, lw_okq q := List.forall_mem_cons.mpr ⟨lw_p32, List.forall_mem_cons.mpr ⟨lw_p33, List.forall_mem_cons.mpr ⟨lw_p34, List.forall_mem_cons.mpr ⟨lw_p35, List.forall_mem_cons.mpr ⟨lw_p36, List.forall_mem_cons.mpr ⟨lw_p37, List.forall_mem_cons.mpr ⟨lw_p38, List.forall_mem_cons.mpr ⟨lw_p39, List.forall_mem_cons.mpr ⟨lw_p40, List.forall_mem_cons.mpr ⟨lw_p41, List.forall_mem_cons.mpr ⟨lw_p42, List.forall_mem_cons.mpr ⟨lw_p43, List.forall_mem_cons.mpr ⟨lw_p44, List.forall_mem_cons.mpr ⟨lw_p45, List.forall_mem_cons.mpr ⟨lw_p46, List.forall_mem_cons.mpr ⟨lw_p47, fun _ h => absurd h List.not_mem_nil⟩⟩⟩⟩⟩⟩⟩⟩⟩⟩⟩⟩⟩⟩⟩⟩
theorem lw_p48 : lw_okq (⟨"ShareTicketsModel", "addsUser", "(II)V"⟩, 20) := ⟨⟨by decide +kernel, by decide +kernel⟩, List.mem_of_getElem? (i := 1178) (by decide +kernel), List.mem_of_getElem? (i := 1324) (by decide +kernel), List.mem_of_getElem? (i := 1325) (by decide +kernel)⟩
theorem lw_p49 : lw_okq (⟨"ShareTicketsModel", "readsMachine", "()V"⟩, 20) := ⟨⟨by decide +kernel, by decide +kernel⟩, List.mem_of_getElem? (i := 1178) (by decide +kernel), List.mem_of_getElem? (i := 1329) (by decide +kernel), List.mem_of_getElem? (i := 1330) (by decide +kernel)⟩
theorem lw_p50 : lw_okq (⟨"ShareTicketsModel", "readsJob", "()V"⟩, 20) := ⟨⟨by decide +kernel, by decide +kernel⟩, List.mem_of_getElem? (i := 1178) (by decide +kernel), List.mem_of_getElem? (i := 1334) (by decide +kernel), List.mem_of_getElem? (i := 1335) (by decide +kernel)⟩
theorem lw_p51 : lw_okq (⟨"ShareTicketsModel", "isLeaf", "(I)Z"⟩, 20) := ⟨⟨by decide +kernel, by decide +kernel⟩, List.mem_of_getElem? (i := 1178) (by decide +kernel), List.mem_of_getElem? (i := 1338) (by decide +kernel), List.mem_of_getElem? (i := 1339) (by decide +kernel)⟩
theorem lw_p52 : lw_okq (⟨"ShareTicketsModel", "childrenOf", "(I)I"⟩, 20) := ⟨⟨by decide +kernel, by decide +kernel⟩, List.mem_of_getElem? (i := 1178) (by decide +kernel), List.mem_of_getElem? (i := 1342) (by decide +kernel), List.mem_of_getElem? (i := 1343) (by decide +kernel)⟩
theorem lw_p53 : lw_okq (⟨"ShareTicketsModel", "addsJob", "(II)V"⟩, 20) := ⟨⟨by decide +kernel, by decide +kernel⟩, List.mem_of_getElem? (i := 1178) (by decide +kernel), List.mem_of_getElem? (i := 1346) (by decide +kernel), List.mem_of_getElem? (i := 1347) (by decide +kernel)⟩
theorem lw_p54 : lw_okq (⟨"ShareTicketsModel", "lays", "(III)V"⟩, 20) := ⟨⟨by decide +kernel, by decide +kernel⟩, List.mem_of_getElem? (i := 1178) (by decide +kernel), List.mem_of_getElem? (i := 1350) (by decide +kernel), List.mem_of_getElem? (i := 1351) (by decide +kernel)⟩
theorem lw_p55 : lw_okq (⟨"ShareTicketsModel", "readsSetting", "(I)V"⟩, 20) := ⟨⟨by decide +kernel, by decide +kernel⟩, List.mem_of_getElem? (i := 1178) (by decide +kernel), List.mem_of_getElem? (i := 1355) (by decide +kernel), List.mem_of_getElem? (i := 1356) (by decide +kernel)⟩
theorem lw_p56 : lw_okq (⟨"ShareTicketsModel", "fills", "()V"⟩, 20) := ⟨⟨by decide +kernel, by decide +kernel⟩, List.mem_of_getElem? (i := 1178) (by decide +kernel), List.mem_of_getElem? (i := 1367) (by decide +kernel), List.mem_of_getElem? (i := 1368) (by decide +kernel)⟩
theorem lw_p57 : lw_okq (⟨"ShareTicketsModel", "worksTickets", "()V"⟩, 20) := ⟨⟨by decide +kernel, by decide +kernel⟩, List.mem_of_getElem? (i := 1178) (by decide +kernel), List.mem_of_getElem? (i := 1371) (by decide +kernel), List.mem_of_getElem? (i := 1372) (by decide +kernel)⟩
theorem lw_p58 : lw_okq (⟨"ShareTicketsModel", "ticketsOf", "(I)I"⟩, 20) := ⟨⟨by decide +kernel, by decide +kernel⟩, List.mem_of_getElem? (i := 1178) (by decide +kernel), List.mem_of_getElem? (i := 1375) (by decide +kernel), List.mem_of_getElem? (i := 1376) (by decide +kernel)⟩
theorem lw_p59 : lw_okq (⟨"ShareTicketsModel", "baseOf", "(I)I"⟩, 20) := ⟨⟨by decide +kernel, by decide +kernel⟩, List.mem_of_getElem? (i := 1178) (by decide +kernel), List.mem_of_getElem? (i := 1379) (by decide +kernel), List.mem_of_getElem? (i := 1380) (by decide +kernel)⟩
theorem lw_p60 : lw_okq (⟨"ShareTicketsModel", "isLent", "(I)Z"⟩, 20) := ⟨⟨by decide +kernel, by decide +kernel⟩, List.mem_of_getElem? (i := 1178) (by decide +kernel), List.mem_of_getElem? (i := 1384) (by decide +kernel), List.mem_of_getElem? (i := 1385) (by decide +kernel)⟩
theorem lw_p61 : lw_okq (⟨"ShareTicketsModel", "lent", "(II)I"⟩, 20) := ⟨⟨by decide +kernel, by decide +kernel⟩, List.mem_of_getElem? (i := 1178) (by decide +kernel), List.mem_of_getElem? (i := 1388) (by decide +kernel), List.mem_of_getElem? (i := 1389) (by decide +kernel)⟩
theorem lw_p62 : lw_okq (⟨"ShareTicketsModel", "bestWaiting", "()I"⟩, 20) := ⟨⟨by decide +kernel, by decide +kernel⟩, List.mem_of_getElem? (i := 1178) (by decide +kernel), List.mem_of_getElem? (i := 1392) (by decide +kernel), List.mem_of_getElem? (i := 1393) (by decide +kernel)⟩
theorem lw_p63 : lw_okq (⟨"ShareTicketsModel", "jobWorth", "(I)J"⟩, 20) := ⟨⟨by decide +kernel, by decide +kernel⟩, List.mem_of_getElem? (i := 1178) (by decide +kernel), List.mem_of_getElem? (i := 1396) (by decide +kernel), List.mem_of_getElem? (i := 1397) (by decide +kernel)⟩
def lw_privs_4 : List (MethodName × Nat) := [(⟨"ShareTicketsModel", "addsUser", "(II)V"⟩, 20), (⟨"ShareTicketsModel", "readsMachine", "()V"⟩, 20), (⟨"ShareTicketsModel", "readsJob", "()V"⟩, 20), (⟨"ShareTicketsModel", "isLeaf", "(I)Z"⟩, 20), (⟨"ShareTicketsModel", "childrenOf", "(I)I"⟩, 20), (⟨"ShareTicketsModel", "addsJob", "(II)V"⟩, 20), (⟨"ShareTicketsModel", "lays", "(III)V"⟩, 20), (⟨"ShareTicketsModel", "readsSetting", "(I)V"⟩, 20), (⟨"ShareTicketsModel", "fills", "()V"⟩, 20), (⟨"ShareTicketsModel", "worksTickets", "()V"⟩, 20), (⟨"ShareTicketsModel", "ticketsOf", "(I)I"⟩, 20), (⟨"ShareTicketsModel", "baseOf", "(I)I"⟩, 20), (⟨"ShareTicketsModel", "isLent", "(I)Z"⟩, 20), (⟨"ShareTicketsModel", "lent", "(II)I"⟩, 20), (⟨"ShareTicketsModel", "bestWaiting", "()I"⟩, 20), (⟨"ShareTicketsModel", "jobWorth", "(I)J"⟩, 20)]
theorem lw_r4 : ∀ q ∈ lw_privs_4, lw_okq q := List.forall_mem_cons.mpr ⟨lw_p48, List.forall_mem_cons.mpr ⟨lw_p49, List.forall_mem_cons.mpr ⟨lw_p50, List.forall_mem_cons.mpr ⟨lw_p51, List.forall_mem_cons.mpr ⟨lw_p52, List.forall_mem_cons.mpr ⟨lw_p53, List.forall_mem_cons.mpr ⟨lw_p54, List.forall_mem_cons.mpr ⟨lw_p55, List.forall_mem_cons.mpr ⟨lw_p56, List.forall_mem_cons.mpr ⟨lw_p57, List.forall_mem_cons.mpr ⟨lw_p58, List.forall_mem_cons.mpr ⟨lw_p59, List.forall_mem_cons.mpr ⟨lw_p60, List.forall_mem_cons.mpr ⟨lw_p61, List.forall_mem_cons.mpr ⟨lw_p62, List.forall_mem_cons.mpr ⟨lw_p63, fun _ h => absurd h List.not_mem_nil⟩⟩⟩⟩⟩⟩⟩⟩⟩⟩⟩⟩⟩⟩⟩⟩
theorem lw_p64 : lw_okq (⟨"ShareTicketsModel", "loadOf", "(I)I"⟩, 20) := ⟨⟨by decide +kernel, by decide +kernel⟩, List.mem_of_getElem? (i := 1178) (by decide +kernel), List.mem_of_getElem? (i := 1400) (by decide +kernel), List.mem_of_getElem? (i := 1401) (by decide +kernel)⟩
theorem lw_p65 : lw_okq (⟨"ShareTicketsModel", "worthOf", "(II)J"⟩, 20) := ⟨⟨by decide +kernel, by decide +kernel⟩, List.mem_of_getElem? (i := 1178) (by decide +kernel), List.mem_of_getElem? (i := 1404) (by decide +kernel), List.mem_of_getElem? (i := 1405) (by decide +kernel)⟩
theorem lw_p66 : lw_okq (⟨"ShareTicketsModel", "freeMachine", "()I"⟩, 20) := ⟨⟨by decide +kernel, by decide +kernel⟩, List.mem_of_getElem? (i := 1178) (by decide +kernel), List.mem_of_getElem? (i := 1409) (by decide +kernel), List.mem_of_getElem? (i := 1410) (by decide +kernel)⟩
theorem lw_p67 : lw_okq (⟨"ShareTicketsModel", "runningOn", "(I)I"⟩, 20) := ⟨⟨by decide +kernel, by decide +kernel⟩, List.mem_of_getElem? (i := 1178) (by decide +kernel), List.mem_of_getElem? (i := 1413) (by decide +kernel), List.mem_of_getElem? (i := 1414) (by decide +kernel)⟩
theorem lw_p68 : lw_okq (⟨"ShareTicketsModel", "runs", "(II)V"⟩, 20) := ⟨⟨by decide +kernel, by decide +kernel⟩, List.mem_of_getElem? (i := 1178) (by decide +kernel), List.mem_of_getElem? (i := 1417) (by decide +kernel), List.mem_of_getElem? (i := 1418) (by decide +kernel)⟩
theorem lw_p69 : lw_okq (⟨"ShareTicketsModel", "keeps", "()V"⟩, 20) := ⟨⟨by decide +kernel, by decide +kernel⟩, List.mem_of_getElem? (i := 1178) (by decide +kernel), List.mem_of_getElem? (i := 1421) (by decide +kernel), List.mem_of_getElem? (i := 1422) (by decide +kernel)⟩
theorem lw_p70 : lw_okq (⟨"ShareTicketsModel", "isUser", "(I)Z"⟩, 20) := ⟨⟨by decide +kernel, by decide +kernel⟩, List.mem_of_getElem? (i := 1178) (by decide +kernel), List.mem_of_getElem? (i := 1433) (by decide +kernel), List.mem_of_getElem? (i := 1434) (by decide +kernel)⟩
theorem lw_p71 : lw_okq (⟨"ShareTicketsModel", "useOf", "(I)I"⟩, 20) := ⟨⟨by decide +kernel, by decide +kernel⟩, List.mem_of_getElem? (i := 1178) (by decide +kernel), List.mem_of_getElem? (i := 1437) (by decide +kernel), List.mem_of_getElem? (i := 1438) (by decide +kernel)⟩
theorem lw_p72 : lw_okq (⟨"ShareTicketsModel", "isBelow", "(II)Z"⟩, 20) := ⟨⟨by decide +kernel, by decide +kernel⟩, List.mem_of_getElem? (i := 1178) (by decide +kernel), List.mem_of_getElem? (i := 1441) (by decide +kernel), List.mem_of_getElem? (i := 1442) (by decide +kernel)⟩
theorem lw_p73 : lw_okq (⟨"ShareTicketsModel", "jobsOf", "(II)I"⟩, 20) := ⟨⟨by decide +kernel, by decide +kernel⟩, List.mem_of_getElem? (i := 1178) (by decide +kernel), List.mem_of_getElem? (i := 1445) (by decide +kernel), List.mem_of_getElem? (i := 1446) (by decide +kernel)⟩
theorem lw_p74 : lw_okq (⟨"ShareTicketsModel", "hasLoan", "(I)Z"⟩, 20) := ⟨⟨by decide +kernel, by decide +kernel⟩, List.mem_of_getElem? (i := 1178) (by decide +kernel), List.mem_of_getElem? (i := 1453) (by decide +kernel), List.mem_of_getElem? (i := 1454) (by decide +kernel)⟩
theorem lw_p75 : lw_okq (⟨"ShareTicketsModel", "cannotLend", "(III)Z"⟩, 20) := ⟨⟨by decide +kernel, by decide +kernel⟩, List.mem_of_getElem? (i := 1178) (by decide +kernel), List.mem_of_getElem? (i := 1466) (by decide +kernel), List.mem_of_getElem? (i := 1467) (by decide +kernel)⟩
theorem lw_p76 : lw_okq (⟨"ShareTicketsModel", "goneAt", "(I)I"⟩, 20) := ⟨⟨by decide +kernel, by decide +kernel⟩, List.mem_of_getElem? (i := 1178) (by decide +kernel), List.mem_of_getElem? (i := 1474) (by decide +kernel), List.mem_of_getElem? (i := 1475) (by decide +kernel)⟩
theorem lw_p77 : lw_okq (⟨"ShareTicketsModel", "isMachine", "(I)Z"⟩, 20) := ⟨⟨by decide +kernel, by decide +kernel⟩, List.mem_of_getElem? (i := 1178) (by decide +kernel), List.mem_of_getElem? (i := 1494) (by decide +kernel), List.mem_of_getElem? (i := 1495) (by decide +kernel)⟩
theorem lw_p78 : lw_okq (⟨"ShareTicketsModel", "leastRunning", "(I)I"⟩, 20) := ⟨⟨by decide +kernel, by decide +kernel⟩, List.mem_of_getElem? (i := 1178) (by decide +kernel), List.mem_of_getElem? (i := 1498) (by decide +kernel), List.mem_of_getElem? (i := 1499) (by decide +kernel)⟩
theorem lw_p79 : lw_okq (⟨"ShareTicketsModel", "isJob", "(I)Z"⟩, 20) := ⟨⟨by decide +kernel, by decide +kernel⟩, List.mem_of_getElem? (i := 1178) (by decide +kernel), List.mem_of_getElem? (i := 1506) (by decide +kernel), List.mem_of_getElem? (i := 1507) (by decide +kernel)⟩
def lw_privs_5 : List (MethodName × Nat) := [(⟨"ShareTicketsModel", "loadOf", "(I)I"⟩, 20), (⟨"ShareTicketsModel", "worthOf", "(II)J"⟩, 20), (⟨"ShareTicketsModel", "freeMachine", "()I"⟩, 20), (⟨"ShareTicketsModel", "runningOn", "(I)I"⟩, 20), (⟨"ShareTicketsModel", "runs", "(II)V"⟩, 20), (⟨"ShareTicketsModel", "keeps", "()V"⟩, 20), (⟨"ShareTicketsModel", "isUser", "(I)Z"⟩, 20), (⟨"ShareTicketsModel", "useOf", "(I)I"⟩, 20), (⟨"ShareTicketsModel", "isBelow", "(II)Z"⟩, 20), (⟨"ShareTicketsModel", "jobsOf", "(II)I"⟩, 20), (⟨"ShareTicketsModel", "hasLoan", "(I)Z"⟩, 20), (⟨"ShareTicketsModel", "cannotLend", "(III)Z"⟩, 20), (⟨"ShareTicketsModel", "goneAt", "(I)I"⟩, 20), (⟨"ShareTicketsModel", "isMachine", "(I)Z"⟩, 20), (⟨"ShareTicketsModel", "leastRunning", "(I)I"⟩, 20), (⟨"ShareTicketsModel", "isJob", "(I)Z"⟩, 20)]
theorem lw_r5 : ∀ q ∈ lw_privs_5, lw_okq q := List.forall_mem_cons.mpr ⟨lw_p64, List.forall_mem_cons.mpr ⟨lw_p65, List.forall_mem_cons.mpr ⟨lw_p66, List.forall_mem_cons.mpr ⟨lw_p67, List.forall_mem_cons.mpr ⟨lw_p68, List.forall_mem_cons.mpr ⟨lw_p69, List.forall_mem_cons.mpr ⟨lw_p70, List.forall_mem_cons.mpr ⟨lw_p71, List.forall_mem_cons.mpr ⟨lw_p72, List.forall_mem_cons.mpr ⟨lw_p73, List.forall_mem_cons.mpr ⟨lw_p74, List.forall_mem_cons.mpr ⟨lw_p75, List.forall_mem_cons.mpr ⟨lw_p76, List.forall_mem_cons.mpr ⟨lw_p77, List.forall_mem_cons.mpr ⟨lw_p78, List.forall_mem_cons.mpr ⟨lw_p79, fun _ h => absurd h List.not_mem_nil⟩⟩⟩⟩⟩⟩⟩⟩⟩⟩⟩⟩⟩⟩⟩⟩
theorem lw_p80 : lw_okq (⟨"ShareTicketsModel", "ends", "(II)V"⟩, 20) := ⟨⟨by decide +kernel, by decide +kernel⟩, List.mem_of_getElem? (i := 1178) (by decide +kernel), List.mem_of_getElem? (i := 1522) (by decide +kernel), List.mem_of_getElem? (i := 1523) (by decide +kernel)⟩
theorem lw_p81 : lw_okq (⟨"ShareTicketsModel", "interrupts", "(I)V"⟩, 20) := ⟨⟨by decide +kernel, by decide +kernel⟩, List.mem_of_getElem? (i := 1178) (by decide +kernel), List.mem_of_getElem? (i := 1530) (by decide +kernel), List.mem_of_getElem? (i := 1531) (by decide +kernel)⟩
theorem lw_p82 : lw_okq (⟨"ShareTicketsModel", "inState", "(I)I"⟩, 20) := ⟨⟨by decide +kernel, by decide +kernel⟩, List.mem_of_getElem? (i := 1178) (by decide +kernel), List.mem_of_getElem? (i := 1542) (by decide +kernel), List.mem_of_getElem? (i := 1543) (by decide +kernel)⟩
theorem lw_p83 : lw_okq (⟨"ShareTicketsModel", "freeSlots", "()I"⟩, 20) := ⟨⟨by decide +kernel, by decide +kernel⟩, List.mem_of_getElem? (i := 1178) (by decide +kernel), List.mem_of_getElem? (i := 1546) (by decide +kernel), List.mem_of_getElem? (i := 1547) (by decide +kernel)⟩
theorem lw_p84 : lw_okq (⟨"ShareTicketsModel", "ticksOnce", "()I"⟩, 20) := ⟨⟨by decide +kernel, by decide +kernel⟩, List.mem_of_getElem? (i := 1178) (by decide +kernel), List.mem_of_getElem? (i := 1554) (by decide +kernel), List.mem_of_getElem? (i := 1555) (by decide +kernel)⟩
theorem lw_p85 : lw_okq (⟨"ShareTicketsModel", "endsLoans", "()V"⟩, 20) := ⟨⟨by decide +kernel, by decide +kernel⟩, List.mem_of_getElem? (i := 1178) (by decide +kernel), List.mem_of_getElem? (i := 1558) (by decide +kernel), List.mem_of_getElem? (i := 1559) (by decide +kernel)⟩
theorem lw_p86 : lw_okq (⟨"ShareTicketsModel", "preempts", "()V"⟩, 20) := ⟨⟨by decide +kernel, by decide +kernel⟩, List.mem_of_getElem? (i := 1178) (by decide +kernel), List.mem_of_getElem? (i := 1562) (by decide +kernel), List.mem_of_getElem? (i := 1563) (by decide +kernel)⟩
theorem lw_p87 : lw_okq (⟨"ShareTicketsModel", "lackOf", "(I)I"⟩, 20) := ⟨⟨by decide +kernel, by decide +kernel⟩, List.mem_of_getElem? (i := 1178) (by decide +kernel), List.mem_of_getElem? (i := 1579) (by decide +kernel), List.mem_of_getElem? (i := 1580) (by decide +kernel)⟩
theorem lw_p88 : lw_okq (⟨"ShareTicketsModel", "says", "(I)V"⟩, 20) := ⟨⟨by decide +kernel, by decide +kernel⟩, List.mem_of_getElem? (i := 1178) (by decide +kernel), List.mem_of_getElem? (i := 1596) (by decide +kernel), List.mem_of_getElem? (i := 1597) (by decide +kernel)⟩
theorem lw_p89 : lw_okq (⟨"ShareTicketsModel", "saysJobs", "(I)V"⟩, 20) := ⟨⟨by decide +kernel, by decide +kernel⟩, List.mem_of_getElem? (i := 1178) (by decide +kernel), List.mem_of_getElem? (i := 1600) (by decide +kernel), List.mem_of_getElem? (i := 1601) (by decide +kernel)⟩
def lw_privs_6 : List (MethodName × Nat) := [(⟨"ShareTicketsModel", "ends", "(II)V"⟩, 20), (⟨"ShareTicketsModel", "interrupts", "(I)V"⟩, 20), (⟨"ShareTicketsModel", "inState", "(I)I"⟩, 20), (⟨"ShareTicketsModel", "freeSlots", "()I"⟩, 20), (⟨"ShareTicketsModel", "ticksOnce", "()I"⟩, 20), (⟨"ShareTicketsModel", "endsLoans", "()V"⟩, 20), (⟨"ShareTicketsModel", "preempts", "()V"⟩, 20), (⟨"ShareTicketsModel", "lackOf", "(I)I"⟩, 20), (⟨"ShareTicketsModel", "says", "(I)V"⟩, 20), (⟨"ShareTicketsModel", "saysJobs", "(I)V"⟩, 20)]
theorem lw_r6 : ∀ q ∈ lw_privs_6, lw_okq q := List.forall_mem_cons.mpr ⟨lw_p80, List.forall_mem_cons.mpr ⟨lw_p81, List.forall_mem_cons.mpr ⟨lw_p82, List.forall_mem_cons.mpr ⟨lw_p83, List.forall_mem_cons.mpr ⟨lw_p84, List.forall_mem_cons.mpr ⟨lw_p85, List.forall_mem_cons.mpr ⟨lw_p86, List.forall_mem_cons.mpr ⟨lw_p87, List.forall_mem_cons.mpr ⟨lw_p88, List.forall_mem_cons.mpr ⟨lw_p89, fun _ h => absurd h List.not_mem_nil⟩⟩⟩⟩⟩⟩⟩⟩⟩⟩
def lw_privs : List (MethodName × Nat) := lw_privs_1 ++ (lw_privs_2 ++ (lw_privs_3 ++ (lw_privs_4 ++ (lw_privs_5 ++ (lw_privs_6)))))
def lw_tbl : List Cond := k2_sels lw_privs ++ tables_1
theorem lw_privs_ok : ∀ q ∈ lw_privs, lw_okq q := by
  show ∀ q ∈ lw_privs_1 ++ (lw_privs_2 ++ (lw_privs_3 ++ (lw_privs_4 ++ (lw_privs_5 ++ (lw_privs_6))))), lw_okq q
  exact List.forall_mem_append.mpr ⟨lw_r1, List.forall_mem_append.mpr ⟨lw_r2, List.forall_mem_append.mpr ⟨lw_r3, List.forall_mem_append.mpr ⟨lw_r4, List.forall_mem_append.mpr ⟨lw_r5, lw_r6⟩⟩⟩⟩⟩
/-- the streams that the claim lets the run draw from -/
abbrev lw_cs : List Choice := [Jvm.Choice.named "NaN.bits"]
theorem lw_bits : nanBits ∈ lw_cs := by first | decide | exact List.mem_cons_self | simp [lw_cs, nanBits]
-- ===== end of PART A; then your names; then what follows =====
/-! ===== BEGIN words of one list among another's, by their places ===== -/
theorem goodIn_r {big : List Cond} (ws : List Cond) (ps : List Nat) (hp : ws = ps.filterMap (fun i => big[i]?)) (h : ws.all goodWord = true) : GoodIn big ws := by
  intro w hw
  have h1 := List.all_eq_true.mp h w hw
  rw [hp] at hw
  obtain ⟨i, -, hi⟩ := List.mem_filterMap.mp hw
  have hm : w ∈ big := by first | exact List.mem_of_getElem? hi | exact List.getElem?_mem hi
  exact ⟨hm, good_of_word h1⟩
theorem goodIn_app {big a b : List Cond} (ha : GoodIn big a) (hb : GoodIn big b) : GoodIn big (a ++ b) := fun w h => (List.mem_append.mp h).elim (ha w) (hb w)
theorem goodIn_ca {big a b : List Cond} {c : Cond} (ha : GoodIn big (c :: a)) (hb : GoodIn big b) : GoodIn big (c :: (a ++ b)) := fun w h => (List.mem_cons.mp h).elim (fun e => ha w (List.mem_cons.mpr (Or.inl e))) (fun h => (List.mem_append.mp h).elim (fun h => ha w (List.mem_cons.mpr (Or.inr h))) (hb w))
theorem goodIn_sub {big ws : List Cond} (hm : ∀ w ∈ ws, w ∈ big) (h : ws.all goodWord = true) : GoodIn big ws := fun w hw => ⟨hm w hw, good_of_word (List.all_eq_true.mp h w hw)⟩
/-! ===== END ===== -/

/-! ===== BEGIN exceptions that leave a method, and their catching by the caller (launches without stack traces) ===== -/
section VXA
/-! The laws vx_back, vx_callV, vx_callS, vx_callSW, vx_throw0, vx_throwS follow proofs of the library, with one case more: JvmDerived/Free/Laws.lean (Back.of_free), Shelf42/LK1.lean (callV, callS), Shelf/KitTraced.lean (throwNew0V, throwNewS). -/
/-- where a method has thrown q: the class by its name, the cell, what was written, the world -/
def vx_T (XC : String → State → State → Prop) (st : State) (q : Addr) (t : State) (mc ms : Nat) (free : Addr → Prop) : Prop :=
  ∃ (E : String) (ce : Cell) (L : List Loc), XC E st t ∧ t.heap[q]? = some ce ∧ ce.vm = .none ∧ st.vm.findClass E = some ce.cls ∧ st.WarmedH t.vm ∧ st.sameButNew ({ t with vm := st.vm } : State) L mc ms ∧ ∀ z ∈ L, free z.base
def vx_Q (Qc : Array Value → State → Outcome → State → Prop) (XC : String → State → State → Prop) (mc ms : Nat) (free : Addr → Prop) : Array Value → State → Outcome → State → Prop := fun a st o t =>
  (Qc a st o t ∧ ∃ L, FrameEnd st o t L mc ms ∧ ∀ q ∈ L, free q.base) ∨ ∃ q, o = .threw q ∧ vx_T XC st q t mc ms free
/-- a callee that returns or throws -/
def vx_Met (l : Launch) (y : MethodName) (ws : List Cond) (rm : Room) (Pc : Array Value → State → Prop) (Qc : Array Value → State → Outcome → State → Prop) (XC : String → State → State → Prop) (mc ms : Nat) (free : Addr → Prop) : Prop :=
  MetFree l y (headSpec ws rm) Pc (fun _ _ _ _ _ => True) (vx_Q Qc XC mc ms free)
def vx_Post (XC : String → State → State → Prop) (mc ms : Nat) (free : Addr → Prop) : Pt → Array Value → Addr → Pt → Prop := fun A a q B =>
  ∃ (g : JFrame) (mk : MethodId) (t : State) (L : List Loc) (E : String) (ce : Cell), B.U.heap = t.heap ∧ B.U.vm = t.vm ∧ XC E (A.U.calling g mk a) t ∧ t.heap[q]? = some ce ∧ ce.vm = .none ∧ A.U.vm.findClass E = some ce.cls ∧ B.locs = A.locs ++ L ∧ (∀ z ∈ L, free z.base) ∧ B.cells = A.cells + mc ∧ B.slots = A.slots + ms
def vx_Back (l : Launch) (R : Room) (p : Program) (e : Env) (below : List Frame) (s : State) (sargs : Array Value) (y : MethodName) (len W9 : Nat)
    (Pre : Pt → Array Value → Prop) (Post : Pt → Array Value → Option Value → Pt → Prop) (PostX : Pt → Array Value → Addr → Pt → Prop) : Prop :=
  ∀ (m : MethodId) (meth : Method) (c : Code) (A : Pt) (g : JFrame) (ig : Instr) (mk : MethodId) (a : Array Value),
    Stand p l e R s m sargs below meth c A.U A.locs A.cells A.slots → g.method = m → g.locals.size = c.maxLocals → decode c.code g.pc = .ok (ig, len) →
    2 * g.monitorRoom + (g.stack.map fun v => v.category).sum ≤ W9 → A.U.methodNamed? y = some mk → Pre A a →
    (∃ (v : Option Value) (B : Pt), Stand p l e R s m sargs below meth c B.U B.locs B.cells B.slots ∧ Post A a v B ∧
      Steps p.tables e below (doInvoke e (A.U.setTop g) [] mk a).1 (B.U.setTop { g with pc := g.pc + len, stack := v.toList ++ g.stack })) ∨
    (∃ (q : Addr) (B : Pt), Stand p l e R s m sargs below meth c B.U B.locs B.cells B.slots ∧ PostX A a q B ∧
      Steps p.tables e below (doInvoke e (A.U.setTop g) [] mk a).1 ((B.U.setTop g).pushFrame (.throwing q)))
section Payer
variable {l : Launch} {R : Room} {p : Program} {e : Env} {below : List Frame} {s : State} {sargs : Array Value} {y : MethodName} {len W9 : Nat}
theorem vx_back {ws : List Cond} {rm : Room} {Pc : Array Value → State → Prop} {Qc : Array Value → State → Outcome → State → Prop} {XC : String → State → State → Prop} {mc ms : Nat} {free : Addr → Prop} {bytes : ByteArray} {maxL : Nat} {ret : Option FieldType}
    (hM : vx_Met l y ws rm Pc Qc XC mc ms free) (hblind : FrameBlind Pc) (hrc : rm.cells = mc) (hrs : rm.slots = ms)
    (hframes : rm.frames + 1 ≤ R.frames) (hlocals : W9 + (maxL + 11) + rm.locals ≤ R.locals)
    (hws : ∀ w ∈ ws, ∀ a' U, s.WarmedH U.vm → w.before a' U = true) (hcode : Cond.code y bytes maxL ret ∈ ws) (hinit : ∀ a' U, s.WarmedH U.vm → (Cond.initialized y.cls).before a' U = true) :
    vx_Back l R p e below s sargs y len W9 (PreOf R mc ms Pc) (PostOf Qc mc ms free) (vx_Post XC mc ms free) := by
  intro m meth c A g ig mk a X hg hsize hdg hW hn hp
  have h1 : (headSpec ws rm).pre.before a A.U = true := atoms_intro fun w hw => hws w hw _ _ X.warmed
  have h2 : (Cond.code y bytes maxL ret).before a A.U = true := hws _ hcode _ _ X.warmed
  have h3 : (Cond.initialized y.cls).before a A.U = true := hinit _ _ X.warmed
  have h4 : A.cells + (headSpec ws rm).room.cells ≤ R.cells := by rw [show (headSpec ws rm).room.cells = mc from hrc]; exact hp.1
  have h5 : A.slots + (headSpec ws rm).room.slots ≤ R.slots := by rw [show (headSpec ws rm).room.slots = ms from hrs]; exact hp.2.1
  have hPc : Pc a (A.U.calling g mk a) := hblind _ _ _ _ hp.2.2
  obtain ⟨U, Ls, c0, s0⟩ := A
  dsimp only [Pt.U, Pt.locs, Pt.cells, Pt.slots] at h1 h2 h3 h4 h5 X hn hPc ⊢
  obtain ⟨methY, cY, hmY, hcY, -, hlY, -, -, -, -⟩ := Cond.code_spec hn h2
  obtain ⟨kY, hkY, -⟩ := className_of_methodNamed hn
  have hinitY : kY.init = .initialized := Cond.initialized_spec (findClass_of_methodNamed hn) hkY h3
  have h : At U g.method c below := by rw [hg]; exact X.here
  have hlocals9 : W9 + (maxL + 11) + (headSpec ws rm).room.locals ≤ R.locals := hlocals
  have happ : (headSpec ws rm).appliesLoose y e.platform (U.calling g mk a) = true :=
    Spec.appliesLoose_calling (g := g) h hdg hn hkY hinitY
      (X.room_calling (g := g) (R' := (headSpec ws rm).room) hsize hmY hcY hframes (by rw [hlY]; omega) h4 h5) h1
  obtain ⟨mid, hmid⟩ := h.above
  have hfr : (U.setTop g).frames = (.java g :: mid) ++ below := by rw [State.frames_setTop' g h.top, hmid]; rfl
  obtain ⟨o, s₂, hsteps, -, hend, hq⟩ := Steps.callFree hM p X.admits X.cas X.clock (acts := []) hfr happ hPc trivial
  have hq' : vx_Q Qc XC mc ms free a (U.calling g mk a) o s₂ := hq
  rw [State.frames_setTop' g h.top] at hend
  obtain ⟨g₀, hg0⟩ := Option.isSome_iff_exists.mp h.top
  obtain ⟨r, hr⟩ := State.topJava?_eq_some.mp hg0
  have hr' : (({ U with heap := s₂.heap, slotsUsed := s₂.slotsUsed } : State).setVm s₂.vm).frames = .java g₀ :: r := hr
  rcases hq' with ⟨hqc, L, hfe, hL⟩ | ⟨q, rfl, E, ce, L, hx, hce, hcv, hcl, hW₂, hsm, hL⟩
  · obtain ⟨⟨v, rfl⟩, hW₂, e2, q2, q3, q4, q5, q6⟩ := id hfe
    have e3 : s₂ = ({ (U.calling g mk a).setFrames s₂.frames with heap := s₂.heap, slotsUsed := s₂.slotsUsed } : State).setVm s₂.vm := by
      have : s₂ = ({ s₂ with vm := (U.calling g mk a).vm } : State).setVm s₂.vm := rfl
      rw [e2] at this
      exact this
    obtain ⟨c₂, i₂, len₂, hc₂, hd₂, hf₂⟩ := hend
    have hW' : U.WarmedH s₂.vm := hW₂
    have hcc : c₂ = c := by
      have h1 : s₂.code? g.method = U.code? g.method := by
        rw [State.code?_eq, State.code?_eq, hW'.alike.method?]
      exact Option.some.inj (hc₂.symm.trans (h1.trans h.code))
    subst hcc
    have hlen : len₂ = len := by rw [hdg] at hd₂; cases hd₂; rfl
    subst hlen
    have hs₂ : s₂ = (({ U with heap := s₂.heap, slotsUsed := s₂.slotsUsed } : State).setVm s₂.vm).setTop { g with pc := g.pc + len₂, stack := v.toList ++ g.stack } := by
      refine e3.trans ?_
      rw [hf₂, State.calling_eq h.top, State.setFrames_setFrames, State.setTop_of_frames _ hr', hr]
      rfl
    have hsame : U.sameButNew ({ U with heap := s₂.heap, slotsUsed := s₂.slotsUsed } : State) L mc ms := by
      refine ⟨?_, q2, q3, q4, q5, q6⟩
      obtain ⟨t, ht, -⟩ := State.frames_cons hr
      show ({ U with heap := s₂.heap, slotsUsed := s₂.slotsUsed } : State) = { U.setFrames U.frames with heap := s₂.heap, slotsUsed := s₂.slotsUsed }
      rw [State.setFrames_self ht]
    subst hg
    refine Or.inl ⟨v, ⟨(({ U with heap := s₂.heap, slotsUsed := s₂.slotsUsed } : State).setVm s₂.vm), Ls ++ L, c0 + mc, s0 + ms⟩,
      ⟨X.admits, X.cas, X.clock, X.frames, X.room, X.hears, X.method, X.code, (X.here.setHeapUsed s₂.heap s₂.slotsUsed).setVm hW'.alike, X.tail, State.WarmedH.trans X.warmed hW', X.limits, X.bytes, X.same.trans (hsame.setVm s.vm)⟩,
      ⟨g, mk, s₂, L, rfl, rfl, hqc, rfl, hL, rfl, rfl⟩, ?_⟩
    show Steps p.tables e below _ ((({ U with heap := s₂.heap, slotsUsed := s₂.slotsUsed } : State).setVm s₂.vm).setTop { g with pc := g.pc + len₂, stack := v.toList ++ g.stack })
    rw [← hs₂]
    exact hsteps
  · obtain ⟨e2, q2, q3, q4, q5, q6⟩ := id hsm
    have e3 : s₂ = ({ (U.calling g mk a).setFrames s₂.frames with heap := s₂.heap, slotsUsed := s₂.slotsUsed } : State).setVm s₂.vm := by
      have : s₂ = ({ s₂ with vm := (U.calling g mk a).vm } : State).setVm s₂.vm := rfl
      rw [e2] at this
      exact this
    have hf₂ : s₂.frames = .throwing q :: .java g :: U.frames.tail := hend
    have hW' : U.WarmedH s₂.vm := hW₂
    have hs₂ : s₂ = ((({ U with heap := s₂.heap, slotsUsed := s₂.slotsUsed } : State).setVm s₂.vm).setTop g).pushFrame (.throwing q) := by
      refine e3.trans ?_
      rw [hf₂, State.calling_eq h.top, State.setFrames_setFrames, State.pushFrame, State.frames_setTop _ hr', State.setTop_of_frames _ hr', State.setFrames_setFrames, hr]
      rfl
    have hsame : U.sameButNew ({ U with heap := s₂.heap, slotsUsed := s₂.slotsUsed } : State) L mc ms := by
      refine ⟨?_, q2, q3, q4, q5, q6⟩
      obtain ⟨t, ht, -⟩ := State.frames_cons hr
      show ({ U with heap := s₂.heap, slotsUsed := s₂.slotsUsed } : State) = { U.setFrames U.frames with heap := s₂.heap, slotsUsed := s₂.slotsUsed }
      rw [State.setFrames_self ht]
    subst hg
    refine Or.inr ⟨q, ⟨(({ U with heap := s₂.heap, slotsUsed := s₂.slotsUsed } : State).setVm s₂.vm), Ls ++ L, c0 + mc, s0 + ms⟩,
      ⟨X.admits, X.cas, X.clock, X.frames, X.room, X.hears, X.method, X.code, (X.here.setHeapUsed s₂.heap s₂.slotsUsed).setVm hW'.alike, X.tail, State.WarmedH.trans X.warmed hW', X.limits, X.bytes, X.same.trans (hsame.setVm s.vm)⟩,
      ⟨g, mk, s₂, L, E, ce, rfl, rfl, hx, hce, hcv, hcl, rfl, hL, rfl, rfl⟩, ?_⟩
    show Steps p.tables e below _ (((({ U with heap := s₂.heap, slotsUsed := s₂.slotsUsed } : State).setVm s₂.vm).setTop g).pushFrame (.throwing q))
    rw [← hs₂]
    exact hsteps
end Payer
section Calls
variable {p : Program} {l : Launch} {e : Env} {R : Room} {s : State} {m : MethodId} {args : Array Value} {below : List Frame} {meth : Method} {c : Code} {T : State} {locs : List Loc} {cells slots : Nat}
theorem vx_callV (X : Stand p l e R s m args below meth c T locs cells slots) (hexec : p.tables.exec = Jvm.exec) {own C : String} {index : Nat} {y : MethodName} {bytes : ByteArray} {maxL : Nat} {ret : Option FieldType}
    (hown : s.vm.findClass own = some m.cls) (hlink : (Cond.methodLink own index y).before args s = true) (hinst : (Cond.instanceMethod y).before args s = true) (hsel : (Cond.selects C y y).before args s = true)
    (hcode : (Cond.code y bytes maxL ret).before args s = true) (hy : y.cls ≠ "java/lang/invoke/MethodHandle" ∧ y.cls ≠ "java/lang/invoke/VarHandle")
    {W9 : Nat} {Pre : Pt → Array Value → Prop} {Post : Pt → Array Value → Option Value → Pt → Prop} {PostX : Pt → Array Value → Addr → Pt → Prop} (hK : vx_Back l R p e below s args y 3 W9 Pre Post PostX)
    {b : Addr} {cellB : Cell} (hcell : T.heap[b]? = some cellB) (hobj : cellB.vm.isStatics = false) (hcls : s.vm.findClass C = some cellB.cls)
    {g : JFrame} (hg : g.method = m) (hsize : g.locals.size = c.maxLocals) {argsL rest : List Value} (hlen : ∀ sig, parseMethodDescriptor y.desc = some sig → argsL.length = sig.parameters.length)
    (hstack : g.stack = argsL.reverse ++ .ref b :: rest) (hW : 2 * g.monitorRoom + (rest.map fun v => v.category).sum ≤ W9) (hdg : decode c.code g.pc = .ok (.invokevirtual index, 3))
    (hpre : ∀ vm₁, s.WarmedH vm₁ → Pre ⟨T.setVm vm₁, locs, cells, slots⟩ (Value.ref b :: argsL).toArray) :
    (∃ (v : Option Value) (vm₁ : Vm) (B : Pt), s.WarmedH vm₁ ∧ Stand p l e R s m args below meth c B.U B.locs B.cells B.slots ∧ Post ⟨T.setVm vm₁, locs, cells, slots⟩ (Value.ref b :: argsL).toArray v B ∧
      ∀ target, Steps p.tables e below (B.U.setTop { g with pc := g.pc + 3, stack := v.toList ++ rest }) target → Steps p.tables e below (T.setTop g) target) ∨
    (∃ (q : Addr) (vm₁ : Vm) (B : Pt), s.WarmedH vm₁ ∧ Stand p l e R s m args below meth c B.U B.locs B.cells B.slots ∧ PostX ⟨T.setVm vm₁, locs, cells, slots⟩ (Value.ref b :: argsL).toArray q B ∧
      Steps p.tables e below (T.setTop g) ((B.U.setTop { g with stack := rest }).pushFrame (.throwing q))) := by
  obtain ⟨mk, methM, hnamed, hmethM, hstM, habM⟩ := Cond.instanceMethod_spec hinst
  obtain ⟨methM', cM, hmethM', -, -, -, -, -, -, hsigM⟩ := Cond.code_spec hnamed hcode
  cases hmethM.symm.trans hmethM'
  obtain ⟨c2, r2, m2, q1, q2, q3, q4, kP, hkP, hkPi⟩ := Cond.selects_spec hsel
  cases hcls.symm.trans q1
  cases (State.methodFound?_of_named hnamed hy).symm.trans q2
  cases hnamed.symm.trans q3
  have hselP : selectMethod e.platform s.vm cellB.cls mk = .method mk := by rw [Launch.admits_selectMethod X.admits]; exact q4
  obtain ⟨vm₁, X₁, hstep₁⟩ := X.invokevirtual hexec hown hlink hnamed hmethM hstM hkP hkPi hy (a := b) (cell := cellB) hcell
    (fun z h => by rw [h] at hobj; cases hobj) hselP hmethM habM hkP hkPi (g := g) hg (argsL := argsL) (rest := rest) (hlen _ hsigM) hstack hdg
  rcases hK m meth c ⟨T.setVm vm₁, locs, cells, slots⟩ { g with stack := rest } (.invokevirtual index) mk (Value.ref b :: argsL).toArray X₁ hg hsize hdg hW (X₁.named hnamed) (hpre vm₁ X₁.warmed) with ⟨v, B, X', hpost, hsteps⟩ | ⟨q, B, X', hpost, hsteps⟩
  · exact Or.inl ⟨v, vm₁, B, X₁.warmed, X', hpost, fun target h => hstep₁ _ fun acts => by rw [doInvoke_state]; exact hsteps.trans h⟩
  · exact Or.inr ⟨q, vm₁, B, X₁.warmed, X', hpost, hstep₁ _ fun acts => by rw [doInvoke_state]; exact hsteps⟩
theorem vx_callS (X : Stand p l e R s m args below meth c T locs cells slots) (hexec : p.tables.exec = Jvm.exec) {own : String} {index : Nat} {y : MethodName} {bytes : ByteArray} {maxL : Nat} {ret : Option FieldType}
    (hown : s.vm.findClass own = some m.cls) (hlink : (Cond.methodLink own index y).before args s = true) (hstat : (Cond.static y).before args s = true) (hinit : (Cond.initialized y.cls).before args s = true)
    (hcode : (Cond.code y bytes maxL ret).before args s = true) (hy : y.cls ≠ "java/lang/invoke/MethodHandle" ∧ y.cls ≠ "java/lang/invoke/VarHandle")
    {W9 : Nat} {Pre : Pt → Array Value → Prop} {Post : Pt → Array Value → Option Value → Pt → Prop} {PostX : Pt → Array Value → Addr → Pt → Prop} (hK : vx_Back l R p e below s args y 3 W9 Pre Post PostX)
    {g : JFrame} (hg : g.method = m) (hsize : g.locals.size = c.maxLocals) {argsL rest : List Value} (hlen : ∀ sig, parseMethodDescriptor y.desc = some sig → argsL.length = sig.parameters.length)
    (hstack : g.stack = argsL.reverse ++ rest) (hW : 2 * g.monitorRoom + (rest.map fun v => v.category).sum ≤ W9) (hdg : decode c.code g.pc = .ok (.invokestatic index, 3))
    (hpre : ∀ vm₁, s.WarmedH vm₁ → Pre ⟨T.setVm vm₁, locs, cells, slots⟩ argsL.toArray) :
    (∃ (v : Option Value) (vm₁ : Vm) (B : Pt), s.WarmedH vm₁ ∧ Stand p l e R s m args below meth c B.U B.locs B.cells B.slots ∧ Post ⟨T.setVm vm₁, locs, cells, slots⟩ argsL.toArray v B ∧
      ∀ target, Steps p.tables e below (B.U.setTop { g with pc := g.pc + 3, stack := v.toList ++ rest }) target → Steps p.tables e below (T.setTop g) target) ∨
    (∃ (q : Addr) (vm₁ : Vm) (B : Pt), s.WarmedH vm₁ ∧ Stand p l e R s m args below meth c B.U B.locs B.cells B.slots ∧ PostX ⟨T.setVm vm₁, locs, cells, slots⟩ argsL.toArray q B ∧
      Steps p.tables e below (T.setTop g) ((B.U.setTop { g with stack := rest }).pushFrame (.throwing q))) := by
  obtain ⟨mk, hnamed⟩ := Cond.code_named hcode
  obtain ⟨methM, cM, hmethM, -, -, -, -, -, -, hsigM⟩ := Cond.code_spec hnamed hcode
  have hstatic : methM.isStatic = true := Cond.static_spec hnamed hmethM hstat
  obtain ⟨kP, hkP, -⟩ := className_of_methodNamed hnamed
  have hinitP : kP.init = .initialized := Cond.initialized_spec (findClass_of_methodNamed hnamed) hkP hinit
  obtain ⟨vm₁, X₁, hstep₁⟩ := X.invokestatic hexec hown hlink hnamed hmethM hstatic hkP hinitP hy (g := g) hg (argsL := argsL) (rest := rest) (hlen _ hsigM) hstack hdg
  rcases hK m meth c ⟨T.setVm vm₁, locs, cells, slots⟩ { g with stack := rest } (.invokestatic index) mk argsL.toArray X₁ hg hsize hdg hW (X₁.named hnamed) (hpre vm₁ X₁.warmed) with ⟨v, B, X', hpost, hsteps⟩ | ⟨q, B, X', hpost, hsteps⟩
  · exact Or.inl ⟨v, vm₁, B, X₁.warmed, X', hpost, fun target h => hstep₁ _ fun acts => by rw [doInvoke_state]; exact hsteps.trans h⟩
  · exact Or.inr ⟨q, vm₁, B, X₁.warmed, X', hpost, hstep₁ _ fun acts => by rw [doInvoke_state]; exact hsteps⟩
end Calls
theorem vx_cls {s : State} {T : State} {vm₁ : Vm} {E : String} {k : ClassId} (hW : s.WarmedH vm₁) (h : (T.setVm vm₁).vm.findClass E = some k) : s.vm.findClass E = some k := by
  have h1 : vm₁.findClass E = some k := h
  rw [hW.alike.findClass] at h1
  exact h1
/-- the method's frame g, with q thrown over it -/
def vx_W (p : Program) (l : Launch) (e : Env) (R : Room) (s : State) (m : MethodId) (args : Array Value) (below : List Frame) (meth : Method) (c : Code) (H : Heap) (locs : List Loc) (cells slots : Nat) (Q : State → Prop) (g : JFrame) (q : Addr) : Prop :=
  ∀ T : State, T.heap = H → Stand p l e R s m args below meth c T locs cells slots → ∃ t, Steps p.tables e below ((T.setTop g).pushFrame (.throwing q)) t ∧ Q t
def vx_Run (p : Program) (l : Launch) (e : Env) (R : Room) (s : State) (m : MethodId) (args : Array Value) (below : List Frame) (meth : Method) (c : Code) (H : Heap) (locs : List Loc) (cells slots mc ms : Nat) (g : JFrame) (rest : List Value) (Qa : State → Outcome → State → Prop) (XC : String → State → State → Prop) (free : Addr → Prop) : Prop :=
  ∀ T : State, T.heap = H → Stand p l e R s m args below meth c T locs cells slots →
    (∃ (v : Option Value) (st₀ t T' : State) (L : List Loc), st₀.heap = H ∧ Stand p l e R s m args below meth c T' (locs ++ L) (cells + mc) (slots + ms) ∧ (∀ q ∈ L, free q.base) ∧ T'.heap = t.heap ∧ T'.vm = t.vm ∧ Qa st₀ (.returned v) t ∧
      Goes p e below T g T' { g with pc := g.pc + 3, stack := v.toList ++ rest }) ∨
    (∃ (q : Addr) (st₀ t T' : State) (L : List Loc) (E : String) (ce : Cell), st₀.heap = H ∧ Stand p l e R s m args below meth c T' (locs ++ L) (cells + mc) (slots + ms) ∧ (∀ z ∈ L, free z.base) ∧ T'.heap = t.heap ∧ T'.vm = t.vm ∧ XC E st₀ t ∧ t.heap[q]? = some ce ∧ ce.vm = .none ∧ s.vm.findClass E = some ce.cls ∧
      Steps p.tables e below (T.setTop g) ((T'.setTop { g with stack := rest }).pushFrame (.throwing q)))
def vx_X {S : Type} (px : S → Prop) (B : String → S → State → Prop) (A : Nat → Prop) : String → State → State → Prop := fun E st t => ∃ u : S, px u ∧ B E u t ∧ va_F A st t
section Runs
variable {p : Program} {l : Launch} {e : Env} {R : Room} {s : State} {m : MethodId} {args : Array Value} {below : List Frame} {meth : Method} {c : Code} {H : Heap} {locs : List Loc} {cells slots : Nat}
variable {y : MethodName} {bytes cc : ByteArray} {maxL nL mc ms n index : Nat} {ret : Option FieldType} {ws : List Cond} {rm : Room} {Pc : Array Value → State → Prop} {Qc : Array Value → State → Outcome → State → Prop} {XC : String → State → State → Prop} {free : Addr → Prop} {Ts : List Cond} {own C : String} {b : Addr} {As rest : List Value} {g : JFrame}
theorem vx_callBack (cb : CallB R s args own index y bytes maxL ret ws rm mc ms n) (hM : vx_Met l y ws rm Pc Qc XC mc ms free) (hbl : FrameBlind Pc) : vx_Back l R p e below s args y 3 8 (PreOf R mc ms Pc) (PostOf Qc mc ms free) (vx_Post XC mc ms free) := by
  obtain ⟨hrc, hrs, hfr, hlo, hws, hcw, -, hini, -⟩ := cb
  exact vx_back (bytes := bytes) (maxL := maxL) (ret := ret) hM hbl hrc hrs hfr hlo hws hcw (fun a' U hW => word_at hW (Or.inl (by first | rfl | simp [Cond.onTables, Cond.keeps, Cond.steady])) hini)
theorem vx_runV (S : CallFix p m c cc nL s args Ts own) (hM : vx_Met l y ws rm Pc Qc XC mc ms free) (cw : CallW R s args own C index y bytes maxL ret ws rm mc ms n) (hp : PreV s H C b Pc As)
    (hg : g.method = m) (hn : As.length = n) (hsize : g.locals.size = nL) (hstack : g.stack = As.reverse ++ .ref b :: rest) (hW : 2 * g.monitorRoom + (rest.map fun v => v.category).sum ≤ 8) (hdg : decode cc g.pc = .ok (.invokevirtual index, 3)) (hf : cells + mc ≤ R.cells ∧ slots + ms ≤ R.slots) :
    vx_Run p l e R s m args below meth c H locs cells slots mc ms g rest (Qc (Value.ref b :: As).toArray) XC free := by
  have hK : vx_Back l R p e below s args y 3 8 (PreOf R mc ms Pc) (PostOf Qc mc ms free) (vx_Post XC mc ms free) := vx_callBack cw.1 hM hp.1
  obtain ⟨⟨-, -, -, -, -, -, hcode, -, hy, hlen, hl⟩, hin, hse⟩ := cw
  obtain ⟨hx, hb, hml, ho, -⟩ := S
  obtain ⟨-, ⟨cellB, hcB, hoB, hclB⟩, hPc⟩ := hp
  intro T hT X
  rcases vx_callV X hx (C := C) (bytes := bytes) (maxL := maxL) (ret := ret) ho hl hin hse hcode hy hK (by rw [hT]; exact hcB) hoB hclB hg (hsize.trans hml.symm) (argsL := As) (rest := rest) (fun sig h => hn.trans (hlen sig h)) hstack hW (by rw [hb]; exact hdg)
    (fun vm₁ hW₁ => ⟨hf.1, hf.2, hPc (T.setVm vm₁) hT hW₁⟩) with ⟨v, vm₁, ⟨U', l2, c2, s2⟩, hW₁, X', ⟨g', mk, t, L, e1, e2, hq, h1, hL, h2, h3⟩, st⟩ | ⟨q, vm₁, ⟨U', l2, c2, s2⟩, hW₁, X', ⟨g', mk, t, L, E, ce, e1, e2, hq, hce, hcv, hcl, h1, hL, h2, h3⟩, st⟩
  · dsimp only [Pt.U, Pt.locs, Pt.cells, Pt.slots] at X' e1 e2 h1 h2 h3 st
    subst h1; subst h2; subst h3
    exact Or.inl ⟨v, (T.setVm vm₁).calling g' mk (Value.ref b :: As).toArray, t, U', L, hT, X', hL, e1, e2, hq, st⟩
  · dsimp only [Pt.U, Pt.locs, Pt.cells, Pt.slots] at X' e1 e2 h1 h2 h3 st hcl
    subst h1; subst h2; subst h3
    exact Or.inr ⟨q, (T.setVm vm₁).calling g' mk (Value.ref b :: As).toArray, t, U', L, E, ce, hT, X', hL, e1, e2, hq, hce, hcv, vx_cls hW₁ hcl, st⟩
theorem vx_runS (S : CallFix p m c cc nL s args Ts own) (hM : vx_Met l y ws rm Pc Qc XC mc ms free) (cw : CallB R s args own index y bytes maxL ret ws rm mc ms n ∧ (Cond.static y).before args s = true) (hp : PreS s H Pc As)
    (hg : g.method = m) (hn : As.length = n) (hsize : g.locals.size = nL) (hstack : g.stack = As.reverse ++ rest) (hW : 2 * g.monitorRoom + (rest.map fun v => v.category).sum ≤ 8) (hdg : decode cc g.pc = .ok (.invokestatic index, 3)) (hf : cells + mc ≤ R.cells ∧ slots + ms ≤ R.slots) :
    vx_Run p l e R s m args below meth c H locs cells slots mc ms g rest (Qc As.toArray) XC free := by
  have hK : vx_Back l R p e below s args y 3 8 (PreOf R mc ms Pc) (PostOf Qc mc ms free) (vx_Post XC mc ms free) := vx_callBack cw.1 hM hp.1
  obtain ⟨⟨-, -, -, -, -, -, hcode, hini, hy, hlen, hl⟩, hstt⟩ := cw
  obtain ⟨hx, hb, hml, ho, -⟩ := S
  intro T hT X
  rcases vx_callS X hx (bytes := bytes) (maxL := maxL) (ret := ret) ho hl hstt hini hcode hy hK hg (hsize.trans hml.symm) (argsL := As) (rest := rest) (fun sig h => hn.trans (hlen sig h)) hstack hW (by rw [hb]; exact hdg)
    (fun vm₁ hW₁ => ⟨hf.1, hf.2, hp.2 (T.setVm vm₁) hT hW₁⟩) with ⟨v, vm₁, ⟨U', l2, c2, s2⟩, hW₁, X', ⟨g', mk, t, L, e1, e2, hq, h1, hL, h2, h3⟩, st⟩ | ⟨q, vm₁, ⟨U', l2, c2, s2⟩, hW₁, X', ⟨g', mk, t, L, E, ce, e1, e2, hq, hce, hcv, hcl, h1, hL, h2, h3⟩, st⟩
  · dsimp only [Pt.U, Pt.locs, Pt.cells, Pt.slots] at X' e1 e2 h1 h2 h3 st
    subst h1; subst h2; subst h3
    exact Or.inl ⟨v, (T.setVm vm₁).calling g' mk As.toArray, t, U', L, hT, X', hL, e1, e2, hq, st⟩
  · dsimp only [Pt.U, Pt.locs, Pt.cells, Pt.slots] at X' e1 e2 h1 h2 h3 st hcl
    subst h1; subst h2; subst h3
    exact Or.inr ⟨q, (T.setVm vm₁).calling g' mk As.toArray, t, U', L, E, ce, hT, X', hL, e1, e2, hq, hce, hcv, vx_cls hW₁ hcl, st⟩
end Runs
section Rows
variable {p : Program} {l : Launch} {e : Env} {R : Room} {s : State} {m : MethodId} {args : Array Value} {below : List Frame} {meth : Method} {c : Code} {H : Heap} {locs : List Loc} {cells slots : Nat} {Q : State → Prop}
variable {mc ms : Nat} {free : Addr → Prop} {A0 A1 : Nat → Prop} {H0 : Heap} {a : Array Value} {pc : Nat} {ls : Array Slot} {st0 rest : List Value}
theorem vx_keep {st₀ t T' : State} {L : List Loc} (h0 : st₀.heap = H) (e1 : T'.heap = t.heap) (hS : va_S A0 H0 H locs) (hA : ∀ q, q < H.size → A1 q → A0 q) (hf : ∀ q, free q → A0 q) (hL : ∀ q ∈ L, free q.base) (hF : va_F A1 st₀ t) :
    H.size ≤ T'.heap.size ∧ (∀ q : Nat, q < H.size → ¬ A1 q → T'.heap[q]? = H[q]?) ∧ va_S A0 H0 T'.heap (locs ++ L) := by
  obtain ⟨hz, hk⟩ := hF
  rw [h0] at hz hk
  exact ⟨by rw [e1]; exact hz, fun q h1 h2 => by rw [e1]; exact hk q h1 h2,
    ⟨Nat.le_trans hS.1 (by rw [e1]; exact hz), fun q h1 h2 => by rw [e1, hk q (Nat.lt_of_lt_of_le h1 hS.1) (fun z => h2 (hA q (Nat.lt_of_lt_of_le h1 hS.1) z))]; exact hS.2.1 q h1 h2, fun q hq => by
      rcases List.mem_append.mp hq with h | h
      · exact hS.2.2 q h
      · exact hf _ (hL q h)⟩⟩
theorem vx_calli {S SX : Type} {post : Int32 → S → Prop} {px : SX → Prop} {B : S → State → Prop} {BX : String → SX → State → Prop} {AX : Nat → Prop} (hr : vx_Run p l e R s m args below meth c H locs cells slots mc ms (F0 m pc ls st0) rest (va_Qi post B A1 a) (vx_X px BX AX) free) (hS : va_S A0 H0 H locs) (hA : ∀ q, q < H.size → A1 q → A0 q) (hf : ∀ q, free q → A0 q) (hAX : ∀ q, q < H.size → AX q → A0 q)
    (kx : ∀ (E : String) (ce : Cell) (q9 : Addr) (u : SX) (t : State) (H1 : Heap) (locs1 : List Loc), t.heap = H1 → s.vm.Alike t.vm → px u → BX E u t → H.size ≤ H1.size → (∀ q : Nat, q < H.size → ¬ AX q → H1[q]? = H[q]?) → va_S A0 H0 H1 locs1 → H1[q9]? = some ce → ce.vm = .none → s.vm.findClass E = some ce.cls → vx_W p l e R s m args below meth c H1 locs1 (cells + mc) (slots + ms) Q (F0 m pc ls rest) q9)
    (kk : ∀ (r : Int32) (u : S) (t : State) (H1 : Heap) (locs1 : List Loc), t.heap = H1 → s.vm.Alike t.vm → post r u → B u t → H.size ≤ H1.size → (∀ q : Nat, q < H.size → ¬ A1 q → H1[q]? = H[q]?) → va_S A0 H0 H1 locs1 → W p l e R s m args below meth c H1 locs1 (cells + mc) (slots + ms) Q (F0 m (pc + 3) ls (.int r :: rest))) : W p l e R s m args below meth c H locs cells slots Q (F0 m pc ls st0) := by
  intro T hT X
  rcases hr T hT X with ⟨v, st₀, t, T', L, h0, X', hL, e1, e2, ⟨⟨r, u, hv, hp, hb⟩, hF⟩, st⟩ | ⟨q, st₀, t, T', L, E, ce, h0, X', hL, e1, e2, ⟨u, hp, hb, hF⟩, hce, hcv, hcl, st⟩
  · cases hv
    obtain ⟨k1, k2, k3⟩ := vx_keep h0 e1 hS hA hf hL hF
    obtain ⟨t2, a1, b1⟩ := kk r u t T'.heap (locs ++ L) e1.symm (by rw [← e2]; exact X'.warmed.alike) hp hb k1 k2 k3 T' rfl X'
    exact ⟨t2, st t2 a1, b1⟩
  · obtain ⟨k1, k2, k3⟩ := vx_keep h0 e1 hS hAX hf hL hF
    obtain ⟨t2, a1, b1⟩ := kx E ce q u t T'.heap (locs ++ L) e1.symm (by rw [← e2]; exact X'.warmed.alike) hp hb k1 k2 k3 (by rw [e1]; exact hce) hcv hcl T' rfl X'
    exact ⟨t2, st.trans a1, b1⟩
theorem vx_calll {S SX : Type} {post : Int64 → S → Prop} {px : SX → Prop} {B : S → State → Prop} {BX : String → SX → State → Prop} {AX : Nat → Prop} (hr : vx_Run p l e R s m args below meth c H locs cells slots mc ms (F0 m pc ls st0) rest (va_Ql post B A1 a) (vx_X px BX AX) free) (hS : va_S A0 H0 H locs) (hA : ∀ q, q < H.size → A1 q → A0 q) (hf : ∀ q, free q → A0 q) (hAX : ∀ q, q < H.size → AX q → A0 q)
    (kx : ∀ (E : String) (ce : Cell) (q9 : Addr) (u : SX) (t : State) (H1 : Heap) (locs1 : List Loc), t.heap = H1 → s.vm.Alike t.vm → px u → BX E u t → H.size ≤ H1.size → (∀ q : Nat, q < H.size → ¬ AX q → H1[q]? = H[q]?) → va_S A0 H0 H1 locs1 → H1[q9]? = some ce → ce.vm = .none → s.vm.findClass E = some ce.cls → vx_W p l e R s m args below meth c H1 locs1 (cells + mc) (slots + ms) Q (F0 m pc ls rest) q9)
    (kk : ∀ (r : Int64) (u : S) (t : State) (H1 : Heap) (locs1 : List Loc), t.heap = H1 → s.vm.Alike t.vm → post r u → B u t → H.size ≤ H1.size → (∀ q : Nat, q < H.size → ¬ A1 q → H1[q]? = H[q]?) → va_S A0 H0 H1 locs1 → W p l e R s m args below meth c H1 locs1 (cells + mc) (slots + ms) Q (F0 m (pc + 3) ls (.long r :: rest))) : W p l e R s m args below meth c H locs cells slots Q (F0 m pc ls st0) := by
  intro T hT X
  rcases hr T hT X with ⟨v, st₀, t, T', L, h0, X', hL, e1, e2, ⟨⟨r, u, hv, hp, hb⟩, hF⟩, st⟩ | ⟨q, st₀, t, T', L, E, ce, h0, X', hL, e1, e2, ⟨u, hp, hb, hF⟩, hce, hcv, hcl, st⟩
  · cases hv
    obtain ⟨k1, k2, k3⟩ := vx_keep h0 e1 hS hA hf hL hF
    obtain ⟨t2, a1, b1⟩ := kk r u t T'.heap (locs ++ L) e1.symm (by rw [← e2]; exact X'.warmed.alike) hp hb k1 k2 k3 T' rfl X'
    exact ⟨t2, st t2 a1, b1⟩
  · obtain ⟨k1, k2, k3⟩ := vx_keep h0 e1 hS hAX hf hL hF
    obtain ⟨t2, a1, b1⟩ := kx E ce q u t T'.heap (locs ++ L) e1.symm (by rw [← e2]; exact X'.warmed.alike) hp hb k1 k2 k3 (by rw [e1]; exact hce) hcv hcl T' rfl X'
    exact ⟨t2, st.trans a1, b1⟩
theorem vx_callf {S SX : Type} {post : UInt32 → S → Prop} {px : SX → Prop} {B : S → State → Prop} {BX : String → SX → State → Prop} {AX : Nat → Prop} (hr : vx_Run p l e R s m args below meth c H locs cells slots mc ms (F0 m pc ls st0) rest (va_Qf post B A1 a) (vx_X px BX AX) free) (hS : va_S A0 H0 H locs) (hA : ∀ q, q < H.size → A1 q → A0 q) (hf : ∀ q, free q → A0 q) (hAX : ∀ q, q < H.size → AX q → A0 q)
    (kx : ∀ (E : String) (ce : Cell) (q9 : Addr) (u : SX) (t : State) (H1 : Heap) (locs1 : List Loc), t.heap = H1 → s.vm.Alike t.vm → px u → BX E u t → H.size ≤ H1.size → (∀ q : Nat, q < H.size → ¬ AX q → H1[q]? = H[q]?) → va_S A0 H0 H1 locs1 → H1[q9]? = some ce → ce.vm = .none → s.vm.findClass E = some ce.cls → vx_W p l e R s m args below meth c H1 locs1 (cells + mc) (slots + ms) Q (F0 m pc ls rest) q9)
    (kk : ∀ (r : UInt32) (u : S) (t : State) (H1 : Heap) (locs1 : List Loc), t.heap = H1 → s.vm.Alike t.vm → post r u → B u t → H.size ≤ H1.size → (∀ q : Nat, q < H.size → ¬ A1 q → H1[q]? = H[q]?) → va_S A0 H0 H1 locs1 → W p l e R s m args below meth c H1 locs1 (cells + mc) (slots + ms) Q (F0 m (pc + 3) ls (.float r :: rest))) : W p l e R s m args below meth c H locs cells slots Q (F0 m pc ls st0) := by
  intro T hT X
  rcases hr T hT X with ⟨v, st₀, t, T', L, h0, X', hL, e1, e2, ⟨⟨r, u, hv, hp, hb⟩, hF⟩, st⟩ | ⟨q, st₀, t, T', L, E, ce, h0, X', hL, e1, e2, ⟨u, hp, hb, hF⟩, hce, hcv, hcl, st⟩
  · cases hv
    obtain ⟨k1, k2, k3⟩ := vx_keep h0 e1 hS hA hf hL hF
    obtain ⟨t2, a1, b1⟩ := kk r u t T'.heap (locs ++ L) e1.symm (by rw [← e2]; exact X'.warmed.alike) hp hb k1 k2 k3 T' rfl X'
    exact ⟨t2, st t2 a1, b1⟩
  · obtain ⟨k1, k2, k3⟩ := vx_keep h0 e1 hS hAX hf hL hF
    obtain ⟨t2, a1, b1⟩ := kx E ce q u t T'.heap (locs ++ L) e1.symm (by rw [← e2]; exact X'.warmed.alike) hp hb k1 k2 k3 (by rw [e1]; exact hce) hcv hcl T' rfl X'
    exact ⟨t2, st.trans a1, b1⟩
theorem vx_calld {S SX : Type} {post : UInt64 → S → Prop} {px : SX → Prop} {B : S → State → Prop} {BX : String → SX → State → Prop} {AX : Nat → Prop} (hr : vx_Run p l e R s m args below meth c H locs cells slots mc ms (F0 m pc ls st0) rest (va_Qd post B A1 a) (vx_X px BX AX) free) (hS : va_S A0 H0 H locs) (hA : ∀ q, q < H.size → A1 q → A0 q) (hf : ∀ q, free q → A0 q) (hAX : ∀ q, q < H.size → AX q → A0 q)
    (kx : ∀ (E : String) (ce : Cell) (q9 : Addr) (u : SX) (t : State) (H1 : Heap) (locs1 : List Loc), t.heap = H1 → s.vm.Alike t.vm → px u → BX E u t → H.size ≤ H1.size → (∀ q : Nat, q < H.size → ¬ AX q → H1[q]? = H[q]?) → va_S A0 H0 H1 locs1 → H1[q9]? = some ce → ce.vm = .none → s.vm.findClass E = some ce.cls → vx_W p l e R s m args below meth c H1 locs1 (cells + mc) (slots + ms) Q (F0 m pc ls rest) q9)
    (kk : ∀ (r : UInt64) (u : S) (t : State) (H1 : Heap) (locs1 : List Loc), t.heap = H1 → s.vm.Alike t.vm → post r u → B u t → H.size ≤ H1.size → (∀ q : Nat, q < H.size → ¬ A1 q → H1[q]? = H[q]?) → va_S A0 H0 H1 locs1 → W p l e R s m args below meth c H1 locs1 (cells + mc) (slots + ms) Q (F0 m (pc + 3) ls (.double r :: rest))) : W p l e R s m args below meth c H locs cells slots Q (F0 m pc ls st0) := by
  intro T hT X
  rcases hr T hT X with ⟨v, st₀, t, T', L, h0, X', hL, e1, e2, ⟨⟨r, u, hv, hp, hb⟩, hF⟩, st⟩ | ⟨q, st₀, t, T', L, E, ce, h0, X', hL, e1, e2, ⟨u, hp, hb, hF⟩, hce, hcv, hcl, st⟩
  · cases hv
    obtain ⟨k1, k2, k3⟩ := vx_keep h0 e1 hS hA hf hL hF
    obtain ⟨t2, a1, b1⟩ := kk r u t T'.heap (locs ++ L) e1.symm (by rw [← e2]; exact X'.warmed.alike) hp hb k1 k2 k3 T' rfl X'
    exact ⟨t2, st t2 a1, b1⟩
  · obtain ⟨k1, k2, k3⟩ := vx_keep h0 e1 hS hAX hf hL hF
    obtain ⟨t2, a1, b1⟩ := kx E ce q u t T'.heap (locs ++ L) e1.symm (by rw [← e2]; exact X'.warmed.alike) hp hb k1 k2 k3 (by rw [e1]; exact hce) hcv hcl T' rfl X'
    exact ⟨t2, st.trans a1, b1⟩
theorem vx_callv {S SX : Type} {post : S → Prop} {px : SX → Prop} {B : S → State → Prop} {BX : String → SX → State → Prop} {AX : Nat → Prop} (hr : vx_Run p l e R s m args below meth c H locs cells slots mc ms (F0 m pc ls st0) rest (va_Qv post B A1 a) (vx_X px BX AX) free) (hS : va_S A0 H0 H locs) (hA : ∀ q, q < H.size → A1 q → A0 q) (hf : ∀ q, free q → A0 q) (hAX : ∀ q, q < H.size → AX q → A0 q)
    (kx : ∀ (E : String) (ce : Cell) (q9 : Addr) (u : SX) (t : State) (H1 : Heap) (locs1 : List Loc), t.heap = H1 → s.vm.Alike t.vm → px u → BX E u t → H.size ≤ H1.size → (∀ q : Nat, q < H.size → ¬ AX q → H1[q]? = H[q]?) → va_S A0 H0 H1 locs1 → H1[q9]? = some ce → ce.vm = .none → s.vm.findClass E = some ce.cls → vx_W p l e R s m args below meth c H1 locs1 (cells + mc) (slots + ms) Q (F0 m pc ls rest) q9)
    (kk : ∀ (u : S) (t : State) (H1 : Heap) (locs1 : List Loc), t.heap = H1 → s.vm.Alike t.vm → post u → B u t → H.size ≤ H1.size → (∀ q : Nat, q < H.size → ¬ A1 q → H1[q]? = H[q]?) → va_S A0 H0 H1 locs1 → W p l e R s m args below meth c H1 locs1 (cells + mc) (slots + ms) Q (F0 m (pc + 3) ls (rest))) : W p l e R s m args below meth c H locs cells slots Q (F0 m pc ls st0) := by
  intro T hT X
  rcases hr T hT X with ⟨v, st₀, t, T', L, h0, X', hL, e1, e2, ⟨⟨u, hv, hp, hb⟩, hF⟩, st⟩ | ⟨q, st₀, t, T', L, E, ce, h0, X', hL, e1, e2, ⟨u, hp, hb, hF⟩, hce, hcv, hcl, st⟩
  · cases hv
    obtain ⟨k1, k2, k3⟩ := vx_keep h0 e1 hS hA hf hL hF
    obtain ⟨t2, a1, b1⟩ := kk u t T'.heap (locs ++ L) e1.symm (by rw [← e2]; exact X'.warmed.alike) hp hb k1 k2 k3 T' rfl X'
    exact ⟨t2, st t2 a1, b1⟩
  · obtain ⟨k1, k2, k3⟩ := vx_keep h0 e1 hS hAX hf hL hF
    obtain ⟨t2, a1, b1⟩ := kx E ce q u t T'.heap (locs ++ L) e1.symm (by rw [← e2]; exact X'.warmed.alike) hp hb k1 k2 k3 (by rw [e1]; exact hce) hcv hcl T' rfl X'
    exact ⟨t2, st.trans a1, b1⟩
/-- caught by the row x of this method's table; the rows ahead don't take it -/
theorem vx_catch {own name : String} {E : String} {ce : Cell} {q : Addr} (hown : s.vm.findClass own = some m.cls) (pre : List ExceptionTableEntry) (x : ExceptionTableEntry) (suf : List ExceptionTableEntry) (hsplit : c.exceptionTable.toList = pre ++ x :: suf)
    (hpass : ∀ z ∈ pre, covers z pc = false ∨ (z.catchType ≠ 0 ∧ ∃ nm : String, (Cond.classLink own z.catchType nm).before args s = true ∧ va_Nc E nm s)) (hx : covers x pc = true) (h0 : x.catchType ≠ 0)
    (hlink : (Cond.classLink own x.catchType name).before args s = true) (hcast : (Cond.castable E name).before args s = true) (hcell : H[q]? = some ce) (hv : ce.vm = .none) (hcl : s.vm.findClass E = some ce.cls)
    (kk : W p l e R s m args below meth c H locs cells slots Q (F0 m x.handlerPc ls [.ref q])) : vx_W p l e R s m args below meth c H locs cells slots Q (F0 m pc ls rest) q := by
  intro T hT X
  have hpl : e.platform.magicAccessors = ({} : Platform).magicAccessors := by rw [X.admits.platform]
  obtain ⟨c3, c4, hc3, hc4, hasg⟩ := Cond.castable_spec hcast
  cases Option.some.inj (hc3.symm.trans hcl)
  obtain ⟨c5, hc5, hcl5⟩ := Cond.classLink_spec hown hlink e.platform hpl
  cases Option.some.inj (hc4.symm.trans hc5)
  obtain ⟨vm', X', st⟩ := X.thenCaughtThrough q (g := F0 m pc ls rest) rfl (Steps.refl _) (by rw [hT]; exact hcell) (by rw [hv]; rfl) (by obtain ⟨k9, h9, -⟩ := Vm.findClass_spec hcl; exact ⟨k9, h9⟩) pre x suf hsplit
    (fun z hz => by
      rcases hpass z hz with h | ⟨hz0, nm, hl1, hn1⟩
      · exact Or.inl h
      · obtain ⟨c6, hc6, hcl6⟩ := Cond.classLink_spec hown hl1 e.platform hpl
        obtain ⟨a8, b8, h1, h2, h3⟩ := hn1
        cases Option.some.inj (h1.symm.trans hcl)
        cases Option.some.inj (h2.symm.trans hc6)
        exact Or.inr ⟨hz0, _, hcl6, h3⟩) hx (Or.inr ⟨h0, c4, hcl5, hasg⟩)
  obtain ⟨t, a1, b1⟩ := kk (T.setVm vm') hT X'
  exact ⟨t, st.trans a1, b1⟩
end Rows
section Ends
variable {p : Program} {l : Launch} {e : Env} {R : Room} {s : State} {m : MethodId} {args : Array Value} {below : List Frame} {meth : Method} {c : Code} {H : Heap} {locs : List Loc} {cells slots : Nat} {Q : State → Prop}
variable {mc ms : Nat} {free : Addr → Prop} {A0 A1 : Nat → Prop} {H0 : Heap} {a : Array Value} {ls : Array Slot} {st0 rest : List Value}
variable {Qc : Array Value → State → Outcome → State → Prop} {XC : String → State → State → Prop}
/-- what a body that may throw owes at its end -/
def vx_MQ (below : List Frame) (Qc : Array Value → State → Outcome → State → Prop) (XC : String → State → State → Prop) (a : Array Value) (s : State) (mc ms : Nat) (free : Addr → Prop) : State → Prop := fun t =>
  ∃ o, t.status = .running ∧ Ended t below o ∧ vx_Q Qc XC mc ms free a s o t
theorem vx_ret {g : JFrame} {mc ms : Nat} (k : W p l e R s m args below meth c H locs cells slots (MQ below Qc args s mc ms free) g) : W p l e R s m args below meth c H locs cells slots (vx_MQ below Qc XC args s mc ms free) g := by
  intro T hT X
  obtain ⟨t, a1, o, b1, b2, b3, b4⟩ := k T hT X
  exact ⟨t, a1, o, b1, b2, Or.inl ⟨b3, b4⟩⟩
/-- not caught here: it goes on to the caller -/
theorem vx_widen {g : JFrame} {q : Addr} {k n : Nat} (h1 : cells ≤ k) (h2 : slots ≤ n) (kk : vx_W p l e R s m args below meth c H locs k n Q g q) : vx_W p l e R s m args below meth c H locs cells slots Q g q := fun T hT X => kk T hT (stand_widen X h1 h2)
theorem vx_out {pc : Nat} {E : String} {ce : Cell} {q : Addr} {mc ms : Nat} (hout : ∀ x ∈ c.exceptionTable.toList, covers x pc = false) (hlocks : meth.locks = false) (hcell : H[q]? = some ce) (hv : ce.vm = .none) (hcl : s.vm.findClass E = some ce.cls)
    (hx : ∀ t : State, t.heap = H → s.vm.Alike t.vm → XC E s t) (hf : ∀ z ∈ locs, free z.base) (hc : cells ≤ mc) (hs : slots ≤ ms) :
    vx_W p l e R s m args below meth c H locs cells slots (vx_MQ below Qc XC args s mc ms free) (F0 m pc ls rest) q := by
  intro T hT X
  obtain ⟨st1, hrun, hend, hW, hsm⟩ := X.leaveThrown q (g := F0 m pc ls rest) rfl rfl rfl hout hlocks
  have hcell9 : (T.setFrames (.throwing q :: below)).heap[q]? = some ce := by
    show T.heap[q]? = some ce
    rw [hT]; exact hcell
  exact ⟨_, st1, .threw q, hrun, hend, Or.inr ⟨q, rfl, E, ce, locs, hx _ hT hW.alike, hcell9, hv, hcl, hW, hsm.mono hc hs, hf⟩⟩
theorem vx_frame {U : State} {k n : Nat} (h : s.sameButNew ({ U with vm := s.vm } : State) locs k n) : s.heap.size ≤ U.heap.size ∧ ∀ q : Nat, q < s.heap.size → (∀ z ∈ locs, z.base ≠ q) → U.heap[q]? = s.heap[q]? := by
  obtain ⟨-, h2, -, -, -, h6⟩ := h
  refine ⟨h2, fun q hq hz => ?_⟩
  obtain ⟨c9, e1, e2, e3, e4⟩ := h6 q _ (Array.getElem?_eq_getElem hq)
  have hs : c9.slots = (s.heap[q]).slots := Array.ext_getElem? fun i => e4 i fun hm => hz _ hm rfl
  have h9 : c9 = s.heap[q] := by
    rw [hs] at e2
    exact e2
  have e5 : U.heap[q]? = some c9 := e1
  rw [e5, h9, Array.getElem?_eq_getElem hq]
/-- the words of a throw but the four that speak of the heap -/
def vx_no (w : Cond) : Bool := decide (w ≠ .isRef (.static Bundle.tN "UNASSIGNED_STACK" Bundle.steD)) && decide (w ≠ .isRef (.static Bundle.tN "SUPPRESSED_SENTINEL" Bundle.listD)) && decide (w ≠ .laysStatic Bundle.tN "UNASSIGNED_STACK" Bundle.steD) && decide (w ≠ .laysStatic Bundle.tN "SUPPRESSED_SENTINEL" Bundle.listD)
def vx_at0 (own : String) (ic : Nat) (X : String) (names : List String) : List Cond := (Bundle.ownAtoms0 own ic X names).filter vx_no
def vx_atS (own : String) (ic : Nat) (X : String) (names : List String) : List Cond := (Bundle.ownAtoms own ic X names).filter vx_no
/-- a word that the tables alone decide, or a good one -/
def vx_ot (w : Cond) : Bool := w.onTables || goodWord w
theorem vx_ot_at {args a' : Array Value} {s U : State} {w : Cond} (hW : s.WarmedH U.vm) (hvm : s.vm = U.vm) (hg : vx_ot w = true) (h : w.before args s = true) : w.before a' U = true := by
  simp only [vx_ot, Bool.or_eq_true] at hg
  rcases hg with hg | hg
  · exact va_tabs hg hvm h
  · exact word_at hW (good_of_word hg) h
/-- a list's words: the good ones out of the method's own list, the others by premises of their own -/
theorem vx_hat {args : Array Value} {s : State} {L B : List Cond} (h1 : ∀ w ∈ L.filter goodWord, w.before args s = true) (h2 : ∀ w ∈ L.filter (fun w => !goodWord w), w ∈ B) (h3 : ∀ w ∈ B, w.before args s = true) : ∀ w ∈ L, w.before args s = true := by
  intro w hw
  by_cases g : goodWord w = true
  · exact h1 w (List.mem_filter.mpr ⟨hw, g⟩)
  · refine h3 w (h2 w (List.mem_filter.mpr ⟨hw, ?_⟩))
    show (!goodWord w) = true
    cases hgw : goodWord w
    · rfl
    · exact absurd hgw g
theorem vx_c {args : Array Value} {s : State} {w : Cond} {B : List Cond} (h : w.before args s = true) (t : ∀ w ∈ B, w.before args s = true) : ∀ w' ∈ w :: B, w'.before args s = true := fun w' h' => (List.mem_cons.mp h').elim (fun e => by rw [e]; exact h) (t w')
theorem vx_n {args : Array Value} {s : State} : ∀ w ∈ ([] : List Cond), w.before args s = true := fun _ h => nomatch h
theorem vx_own {args : Array Value} {s : State} {L : List Cond} (h1 : ∀ w ∈ L.filter vx_no, w.before args s = true)
    (hU : (Cond.isRef (.static Bundle.tN "UNASSIGNED_STACK" Bundle.steD)).before args s = true) (hN : (Cond.isRef (.static Bundle.tN "SUPPRESSED_SENTINEL" Bundle.listD)).before args s = true)
    (lU : (Cond.laysStatic Bundle.tN "UNASSIGNED_STACK" Bundle.steD).before args s = true) (lN : (Cond.laysStatic Bundle.tN "SUPPRESSED_SENTINEL" Bundle.listD).before args s = true) : ∀ w ∈ L, w.before args s = true := by
  intro w hw
  by_cases e1 : w = .isRef (.static Bundle.tN "UNASSIGNED_STACK" Bundle.steD)
  · rw [e1]; exact hU
  · by_cases e2 : w = .isRef (.static Bundle.tN "SUPPRESSED_SENTINEL" Bundle.listD)
    · rw [e2]; exact hN
    · by_cases e3 : w = .laysStatic Bundle.tN "UNASSIGNED_STACK" Bundle.steD
      · rw [e3]; exact lU
      · by_cases e4 : w = .laysStatic Bundle.tN "SUPPRESSED_SENTINEL" Bundle.listD
        · rw [e4]; exact lN
        · exact h1 w (List.mem_filter.mpr ⟨hw, by unfold vx_no; rw [decide_eq_true e1, decide_eq_true e2, decide_eq_true e3, decide_eq_true e4]; rfl⟩)
/-- where a static field lies, its class's statics cell in H -/
def vx_L (C n d : String) (A : Nat → Prop) (U : State) (H : Heap) : Prop := ∃ (c : ClassId) (k : Class) (i : Nat) (f : Field) (a : Nat) (cell : Cell), U.vm.findClass C = some c ∧ U.fieldFound? C n d = some (c, k, i, f) ∧ f.isStatic = true ∧ k.statics = some a ∧ H[a]? = some cell ∧ cell.vm.isStatics = true ∧ cell.cls = c ∧ f.slot < cell.slots.size ∧ k.staticTypes[f.slot]? = some f.type ∧ ¬ A a
theorem vx_L.moved {C n d : String} {A : Nat → Prop} {u U : State} {H : Heap} (hvm : u.vm.Alike U.vm) (h : vx_L C n d A u H) : vx_L C n d A U H := by
  obtain ⟨c, k, i, f, a, cell, h1, h2, h3, h4, h5, h6, h7, h8, h9, h10⟩ := h
  obtain ⟨k', hi', he⟩ := State.fieldFound?_setVm hvm h2
  exact ⟨c, k', i, f, a, cell, by rw [hvm.findClass]; exact h1, hi', h3, by rw [he]; exact h4, h5, h6, h7, h8, by rw [he]; exact h9, h10⟩
theorem vx_L.kept {C n d : String} {A : Nat → Prop} {U : State} {H H1 : Heap} (h : vx_L C n d A U H) (hq : ∀ a : Nat, a < H.size → ¬ A a → H1[a]? = H[a]?) : vx_L C n d A U H1 := by
  obtain ⟨c, k, i, f, a, cell, h1, h2, h3, h4, h5, h6, h7, h8, h9, h10⟩ := h
  exact ⟨c, k, i, f, a, cell, h1, h2, h3, h4, by rw [hq a (Array.getElem?_eq_some_iff.mp h5).1 h10]; exact h5, h6, h7, h8, h9, h10⟩
theorem vx_L.narrow {C n d : String} {A B : Nat → Prop} {U : State} {H : Heap} (h : vx_L C n d A U H) (hAB : ∀ q, B q → A q) : vx_L C n d B U H := by
  obtain ⟨c, k, i, f, a, cell, h1, h2, h3, h4, h5, h6, h7, h8, h9, h10⟩ := h
  exact ⟨c, k, i, f, a, cell, h1, h2, h3, h4, h5, h6, h7, h8, h9, fun z => h10 (hAB _ z)⟩
theorem vx_L.word {C n d : String} {A : Nat → Prop} {s : State} {args : Array Value} (h : vx_L C n d A s s.heap) : (Cond.laysStatic C n d).before args s = true := by
  obtain ⟨c, k, i, f, a, cell, h1, h2, h3, h4, h5, h6, h7, h8, h9, -⟩ := h
  show (Cond.laysStatic C n d).holds args s none s [] = true
  exact Cond.laysStatic_of h1 h2 h3 h4 h5 h6 h7 h8 h9
/-- .. and what it holds: null or some reference -/
def vx_Zq (C n d : String) (A : Nat → Prop) (U : State) (H : Heap) : Prop := va_Zq C n d A U H ∧ vx_L C n d A U H
theorem vx_Zq.moved {C n d : String} {A : Nat → Prop} {u U : State} {H : Heap} (hvm : u.vm.Alike U.vm) (h : vx_Zq C n d A u H) : vx_Zq C n d A U H := ⟨va_Zq.moved hvm h.1, vx_L.moved hvm h.2⟩
theorem vx_Zq.kept {C n d : String} {A : Nat → Prop} {U : State} {H H1 : Heap} (h : vx_Zq C n d A U H) (hq : ∀ a : Nat, a < H.size → ¬ A a → H1[a]? = H[a]?) : vx_Zq C n d A U H1 := ⟨va_Zq.kept h.1 hq, vx_L.kept h.2 hq⟩
theorem vx_Zq.narrow {C n d : String} {A B : Nat → Prop} {U : State} {H : Heap} (h : vx_Zq C n d A U H) (hAB : ∀ q, B q → A q) : vx_Zq C n d B U H := ⟨va_Zq.narrow h.1 hAB, vx_L.narrow h.2 hAB⟩
theorem vx_Zqof {args : Array Value} {s : State} {C n d : String} {A : Nat → Prop} (hl : (Cond.laysStatic C n d).before args s = true) (hini : (Cond.initialized C).before args s = true) (h : (Cond.isRef (.static C n d)).before args s = true) (hA : ∀ a : Nat, a < s.heap.size → ¬ A a) : vx_Zq C n d A s s.heap := by
  refine ⟨va_Zqof hl hini h hA, ?_⟩
  obtain ⟨c, k, i, f, a, cell, h1, h2, h3, h4, h5, h6, h7, h8, h9⟩ := Cond.laysStatic_spec hl
  exact ⟨c, k, i, f, a, cell, h1, h2, h3, h4, h5, h6, h7, h8, h9, hA a (Array.getElem?_eq_some_iff.mp h5).1⟩
theorem vx_isRef {C n d : String} {v : Value} {A : Nat → Prop} {s : State} {args : Array Value} (h : va_Z C n d v A s s.heap) (hv : v.isRef = true) : (Cond.isRef (.static C n d)).before args s = true := by
  obtain ⟨cf, kf, fi, f, a, cell, h1, h2, h3, h4, h5, h6, h7, -⟩ := h
  have he : (Term.static C n d).eval args s none [] s = some v := by
    simp [Term.eval, State.fieldNamed?, h1, h2, h4, h5, h6, h7]
  simp only [Cond.before, Cond.holds, Cond.value, he]
  cases v <;> simp_all [Value.isRef]
theorem vx_isRefq {C n d : String} {A : Nat → Prop} {s : State} {args : Array Value} (h : va_Zq C n d A s s.heap) : (Cond.isRef (.static C n d)).before args s = true := by
  rcases h with h | ⟨t, h⟩
  · exact vx_isRef h rfl
  · exact vx_isRef h rfl
/-- the same frame, seen from here: as if the method were called anew in this heap -/
theorem vx_rebase {T : State} (X : Stand p l e R s m args below meth c T locs cells slots) {R' : Room} (hf : R'.frames ≤ R.frames) (hl : R'.locals ≤ R.locals) (hc : cells + R'.cells ≤ R.cells) (hs : slots + R'.slots ≤ R.slots) :
    Stand p l e R' ((T.setVm s.vm).setFrames (.invoking m args :: below)) m args below meth c T [] 0 0 := by
  have htop : (T.setVm s.vm).topJava?.isSome := X.here.top
  have hF : ((T.setVm s.vm).setFrames (.invoking m args :: below)).frames = .invoking m args :: below := State.frames_setFrames _ (State.cur_lt_of_top htop)
  obtain ⟨g₀, hg0⟩ := Option.isSome_iff_exists.mp htop
  obtain ⟨r, hr⟩ := State.topJava?_eq_some.mp hg0
  have hl9 : e.platform.stackLimits (T.setVm s.vm).me = e.platform.stackLimits s.me := X.limits
  have hb9 : (T.setVm s.vm).me.stackBytes = s.me.stackBytes := X.bytes
  refine ⟨X.admits, X.cas, X.clock, hF, ?_, X.hears, X.method, X.code, X.here, X.tail, X.warmed, ?_, ?_, ?_⟩
  · have h := X.room
    have hU : ((T.setVm s.vm).setFrames (.invoking m args :: below)).localsInUse = s.localsInUse := by
      rw [State.localsInUse_invoking hF (meth := meth) (c := c) X.method X.code, State.localsInUse_invoking X.frames X.method X.code]
    simp only [State.hasRoom, Bool.and_eq_true, decide_eq_true_eq] at h ⊢
    obtain ⟨⟨⟨⟨h1, h2, h3, h4, h5, h6⟩, h7⟩, h8⟩, h9⟩ := h
    rw [X.frames, List.length_cons] at h2 h3
    have q1 := X.heapSize
    have q2 := X.used
    simp only [hF, hU, List.length_cons, State.stackLimits_setFrames, State.stackBytes_setFrames, hl9, hb9]
    refine ⟨⟨⟨⟨by omega, by omega, by omega, by omega, by omega, h6⟩, ?_⟩, ?_⟩, X.book⟩
    · show T.heap.size + R'.cells ≤ e.platform.maxCells
      omega
    · show T.slotsUsed + R'.slots ≤ e.platform.maxSlots
      omega
  · rw [State.stackLimits_setFrames]; rfl
  · rw [State.stackBytes_setFrames]; rfl
  · refine ⟨?_, Nat.le_refl _, Nat.le_refl _, ?_, ?_, fun a c9 h9 => ⟨c9, h9, rfl, rfl, fun _ _ => rfl⟩⟩
    · obtain ⟨t, ht, -⟩ := State.frames_cons hr
      show T.setVm s.vm = { ((T.setVm s.vm).setFrames (.invoking m args :: below)).setFrames (T.setVm s.vm).frames with heap := T.heap, slotsUsed := T.slotsUsed }
      rw [State.setFrames_setFrames, State.setFrames_self ht]
      rfl
    · show T.slotsUsed = T.slotsUsed + ((T.heap.toList.drop T.heap.size).map (·.slots.size)).sum
      rw [List.drop_eq_nil_of_le (Nat.le_of_eq Array.length_toList)]
      rfl
    · show ((T.heap.toList.drop T.heap.size).map (·.slots.size)).sum ≤ 0
      rw [List.drop_eq_nil_of_le (Nat.le_of_eq Array.length_toList)]
      exact Nat.le_refl _
/-- 'throw new E()': new; dup; invokespecial; athrow -/
theorem vx_throw0 {cc : ByteArray} {pc : Nat} (hexec : p.tables.exec = Jvm.exec) (hb : c.code = cc) (hl : l.stackTraces = false) {own cls : String} {names : List String} {ik ic mc ms : Nat} {A : Nat → Prop}
    (hown : s.vm.findClass own = some m.cls) (hcls : Bundle.fit cls = true) (hnames : ∀ n ∈ names, Bundle.fit n = true)
    (hk : (Cond.classLink own ik cls).before args s = true) (hini : (Cond.initialized cls).before args s = true) (hat : ∀ w ∈ vx_at0 own ic cls names, w.before args s = true)
    (hgood : ∀ w ∈ Cond.classLink own ik cls :: Cond.initialized cls :: vx_at0 own ic cls names, vx_ot w = true)
    (hU : vx_Zq Bundle.tN "UNASSIGNED_STACK" Bundle.steD A s s.heap) (hN : vx_Zq Bundle.tN "SUPPRESSED_SENTINEL" Bundle.listD A s s.heap) (hS : va_S A s.heap H locs) (hsize : ls.size = c.maxLocals)
    (d0 : decode cc pc = .ok (.new ik, 3)) (d3 : decode cc (pc + 3) = .ok (.dup, 1)) (d4 : decode cc (pc + 4) = .ok (.invokespecial ic, 3)) (d7 : decode cc (pc + 7) = .ok (.athrow, 1))
    (hout : ∀ x ∈ c.exceptionTable.toList, covers x (pc + 7) = false)
    (hRframes : names.length + 3 < R.frames) (hRlocals : (rest.map fun v => v.category).sum + (13 * (names.length + 1) + 42) ≤ R.locals) (hRcells : cells + 1 ≤ R.cells) (hRslots : slots + 6 ≤ R.slots) (hlocks : meth.locks = false)
    (hx : ∀ t : State, s.vm.Alike t.vm → H.size ≤ t.heap.size → (∀ q : Nat, q < H.size → t.heap[q]? = H[q]?) → XC cls s t)
    (hf : ∀ z ∈ locs, free z.base) (hc : cells + 1 ≤ mc) (hs : slots + 6 ≤ ms) :
    W p l e R s m args below meth c H locs cells slots (vx_MQ below Qc XC args s mc ms free) (F0 m pc ls rest) := by
  intro T hT X
  have htr : e.platform.stackTraces = false := (show e.platform.stackTraces = l.stackTraces by rw [X.admits.platform]).trans hl
  have Y := vx_rebase X (R' := { frames := R.frames, locals := R.locals, cells := 1, slots := 6 }) (Nat.le_refl _) (Nat.le_refl _) hRcells hRslots
  obtain ⟨s', hA⟩ : ∃ z, z = (T.setVm s.vm).setFrames (.invoking m args :: below) := ⟨_, rfl⟩
  rw [← hA] at Y
  have hvm : s'.vm = s.vm := by rw [hA]; rfl
  have hhp : s'.heap = H := by rw [hA]; exact hT
  have hW0 : s.WarmedH s'.vm := by rw [hvm]; exact State.WarmedH.refl s
  have hat' : ∀ w ∈ vx_at0 own ic cls names, w.before args s' = true := fun w hw => vx_ot_at hW0 hvm.symm (hgood w (List.mem_cons_of_mem _ (List.mem_cons_of_mem _ hw))) (hat w hw)
  have hk' : (Cond.classLink own ik cls).before args s' = true := vx_ot_at hW0 hvm.symm (hgood _ List.mem_cons_self) hk
  have hini' : (Cond.initialized cls).before args s' = true := vx_ot_at hW0 hvm.symm (hgood _ (List.mem_cons_of_mem _ List.mem_cons_self)) hini
  have hU' : vx_Zq Bundle.tN "UNASSIGNED_STACK" Bundle.steD A s' s'.heap := by rw [hhp]; exact vx_Zq.moved hW0.alike (hU.kept hS.2.1)
  have hN' : vx_Zq Bundle.tN "SUPPRESSED_SENTINEL" Bundle.listD A s' s'.heap := by rw [hhp]; exact vx_Zq.moved hW0.alike (hN.kept hS.2.1)
  have h : ∀ w ∈ Bundle.ownAtoms0 own ic cls names, w.before args s' = true := vx_own hat' (vx_isRefq hU'.1) (vx_isRefq hN'.1) hU'.2.word hN'.2.word
  have hown' : s'.vm.findClass own = some m.cls := by rw [hvm]; exact hown
  have hins : (Cond.instantiable cls 6).before args s' = true := h _ (by simp [Bundle.ownAtoms0])
  obtain ⟨vm₁, cX, kX, hfX, hkX, -, -, X₁, st1⟩ := Y.newCold hexec (own := own) (C := cls) (index := ik) (n := 6) hown' hk' hins hini'
    (g := F0 m pc ls rest) rfl (by rw [hb]; exact d0) (Nat.le_refl _) (Nat.le_refl _)
  generalize hT1 : (T.setVm vm₁).pushCell { cls := cX, slots := kX.instanceTypes.map defaultValue, vm := .none } = T1 at X₁ st1
  have hcat : (Value.ref T.heap.size).category = 1 := rfl
  have hcellA : T1.heap[T.heap.size]? = some (freshCell cX kX) := by rw [← hT1]; exact State.heap_pushCell_size _ _
  have d3' : decode c.code (pc + 3) = .ok (.dup, 1) := by rw [hb]; exact d3
  obtain ⟨U, hsteps, hrun, hend, hW, hsame, ce, hce, hO⟩ := X₁.ctorThrow0 hexec htr (own := own) (cls := cls) (names := names) (ic := ic) hown' hcls hnames h (fun x hx => nomatch hx) hfX hkX hcellA (by rw [hhp, hT]; exact Nat.le_refl _)
    (g := { method := m, pc := pc + 4, locals := ls, stack := .ref T.heap.size :: .ref T.heap.size :: rest, locked := none }) rfl hsize rfl rfl (rest := rest) rfl
    (by rw [hb]; exact d4) (by rw [hb]; exact d7) hout hRframes (by simp only [List.map_cons, List.sum_cons, hcat]; omega) hlocks
  obtain ⟨f1, f2⟩ := vx_frame hsame
  rw [hhp] at f1 f2
  have hWs : s.WarmedH U.vm := State.WarmedH.trans hW0 hW
  have hcl : s.vm.findClass cls = some ce.cls := by
    have h9 := hO.cls
    rw [hvm] at h9
    exact h9
  have hall : s.sameButNew ({ U with vm := s.vm } : State) locs mc ms := by
    subst hA
    obtain ⟨e1, e2⟩ := hsame
    rw [State.setFrames_setFrames] at e1
    have h2 : (T.setVm s.vm).sameButNew ({ U with vm := s.vm } : State) [] (0 + 1) (0 + 6) := ⟨e1, e2⟩
    have h3 := X.same.trans h2
    rw [List.append_nil] at h3
    exact h3.mono hc hs
  refine ⟨U, ?_, .threw T.heap.size, hrun, hend, Or.inr ⟨T.heap.size, rfl, cls, ce, locs, hx U hWs.alike f1 (fun q hq => f2 q hq (fun z hz => nomatch hz)), hce, hO.vm, hcl, hWs, hall, hf⟩⟩
  refine st1 _ ?_
  show Steps p.tables e below (T1.setTop { method := m, pc := pc + 3, locals := ls, stack := .ref T.heap.size :: rest, locked := none }) _
  jvm_step X₁.here [X₁.here.top, hexec, d3', Value.category]
  exact hsteps
/-- 'throw new E("text")': new; dup; ldc; invokespecial; athrow -/
theorem vx_throwS {cc : ByteArray} {pc : Nat} (hexec : p.tables.exec = Jvm.exec) (hb : c.code = cc) (hl : l.stackTraces = false) {own cls text : String} {names : List String} {ik is ic mc ms sa : Nat} {A : Nat → Prop}
    (hown : s.vm.findClass own = some m.cls) (hcls : Bundle.fit cls = true) (hnames : ∀ n ∈ names, Bundle.fit n = true)
    (hk : (Cond.classLink own ik cls).before args s = true) (hini : (Cond.initialized cls).before args s = true) (hstr : vk_R own is text sa s) (hat : ∀ w ∈ vx_atS own ic cls names, w.before args s = true)
    (hgood : ∀ w ∈ Cond.classLink own ik cls :: Cond.initialized cls :: vx_atS own ic cls names, vx_ot w = true)
    (hU : vx_Zq Bundle.tN "UNASSIGNED_STACK" Bundle.steD A s s.heap) (hN : vx_Zq Bundle.tN "SUPPRESSED_SENTINEL" Bundle.listD A s s.heap) (hS : va_S A s.heap H locs) (hsize : ls.size = c.maxLocals)
    (d0 : decode cc pc = .ok (.new ik, 3)) (d3 : decode cc (pc + 3) = .ok (.dup, 1)) (d4 : decode cc (pc + 4) = .ok (.ldc is, 2)) (d6 : decode cc (pc + 6) = .ok (.invokespecial ic, 3)) (d9 : decode cc (pc + 9) = .ok (.athrow, 1))
    (hout : ∀ x ∈ c.exceptionTable.toList, covers x (pc + 9) = false)
    (hRframes : names.length + 3 < R.frames) (hRlocals : (rest.map fun v => v.category).sum + (13 * (names.length + 1) + 43) ≤ R.locals) (hRcells : cells + 1 ≤ R.cells) (hRslots : slots + 6 ≤ R.slots) (hlocks : meth.locks = false)
    (hx : ∀ t : State, s.vm.Alike t.vm → H.size ≤ t.heap.size → (∀ q : Nat, q < H.size → t.heap[q]? = H[q]?) → XC cls s t)
    (hf : ∀ z ∈ locs, free z.base) (hc : cells + 1 ≤ mc) (hs : slots + 6 ≤ ms) :
    W p l e R s m args below meth c H locs cells slots (vx_MQ below Qc XC args s mc ms free) (F0 m pc ls rest) := by
  intro T hT X
  have htr : e.platform.stackTraces = false := (show e.platform.stackTraces = l.stackTraces by rw [X.admits.platform]).trans hl
  have Y := vx_rebase X (R' := { frames := R.frames, locals := R.locals, cells := 1, slots := 6 }) (Nat.le_refl _) (Nat.le_refl _) hRcells hRslots
  obtain ⟨s', hA⟩ : ∃ z, z = (T.setVm s.vm).setFrames (.invoking m args :: below) := ⟨_, rfl⟩
  rw [← hA] at Y
  have hvm : s'.vm = s.vm := by rw [hA]; rfl
  have hhp : s'.heap = H := by rw [hA]; exact hT
  have hW0 : s.WarmedH s'.vm := by rw [hvm]; exact State.WarmedH.refl s
  have hat' : ∀ w ∈ vx_atS own ic cls names, w.before args s' = true := fun w hw => vx_ot_at hW0 hvm.symm (hgood w (List.mem_cons_of_mem _ (List.mem_cons_of_mem _ hw))) (hat w hw)
  have hk' : (Cond.classLink own ik cls).before args s' = true := vx_ot_at hW0 hvm.symm (hgood _ List.mem_cons_self) hk
  have hini' : (Cond.initialized cls).before args s' = true := vx_ot_at hW0 hvm.symm (hgood _ (List.mem_cons_of_mem _ List.mem_cons_self)) hini
  have hU' : vx_Zq Bundle.tN "UNASSIGNED_STACK" Bundle.steD A s' s'.heap := by rw [hhp]; exact vx_Zq.moved hW0.alike (hU.kept hS.2.1)
  have hN' : vx_Zq Bundle.tN "SUPPRESSED_SENTINEL" Bundle.listD A s' s'.heap := by rw [hhp]; exact vx_Zq.moved hW0.alike (hN.kept hS.2.1)
  have h : ∀ w ∈ Bundle.ownAtoms own ic cls names, w.before args s' = true := vx_own hat' (vx_isRefq hU'.1) (vx_isRefq hN'.1) hU'.2.word hN'.2.word
  have hown' : s'.vm.findClass own = some m.cls := by rw [hvm]; exact hown
  have hins : (Cond.instantiable cls 6).before args s' = true := h _ (by simp [Bundle.ownAtoms])
  obtain ⟨vm₁, cX, kX, hfX, hkX, -, -, X₁, st1⟩ := Y.newCold hexec (own := own) (C := cls) (index := ik) (n := 6) hown' hk' hins hini'
    (g := F0 m pc ls rest) rfl (by rw [hb]; exact d0) (Nat.le_refl _) (Nat.le_refl _)
  generalize hT1 : (T.setVm vm₁).pushCell { cls := cX, slots := kX.instanceTypes.map defaultValue, vm := .none } = T1 at X₁ st1
  have hcat : (Value.ref T.heap.size).category = 1 := rfl
  have hcellA : T1.heap[T.heap.size]? = some (freshCell cX kX) := by rw [← hT1]; exact State.heap_pushCell_size _ _
  have d3' : decode c.code (pc + 3) = .ok (.dup, 1) := by rw [hb]; exact d3
  have d4' : decode c.code (pc + 4) = .ok (.ldc is, 2) := by rw [hb]; exact d4
  have hstr' : vk_R own is text sa s' := vk_R.warm hW0 hstr
  obtain ⟨U, hsteps, hrun, hend, hW, hsame, ce, hce, hO⟩ := X₁.ctorThrowS hexec htr (own := own) (cls := cls) (names := names) (ic := ic) hown' hcls hnames h (fun x hx => nomatch hx) hfX hkX hcellA (by rw [hhp, hT]; exact Nat.le_refl _) (msg := .ref sa) rfl
    (g := { method := m, pc := pc + 6, locals := ls, stack := .ref sa :: .ref T.heap.size :: .ref T.heap.size :: rest, locked := none }) rfl hsize rfl rfl (rest := rest) rfl
    (by rw [hb]; exact d6) (by rw [hb]; exact d9) hout hRframes (by simp only [List.map_cons, List.sum_cons, hcat]; omega) hlocks
  obtain ⟨f1, f2⟩ := vx_frame hsame
  rw [hhp] at f1 f2
  have hWs : s.WarmedH U.vm := State.WarmedH.trans hW0 hW
  have hcl : s.vm.findClass cls = some ce.cls := by
    have h9 := hO.cls
    rw [hvm] at h9
    exact h9
  have hall : s.sameButNew ({ U with vm := s.vm } : State) locs mc ms := by
    subst hA
    obtain ⟨e1, e2⟩ := hsame
    rw [State.setFrames_setFrames] at e1
    have h2 : (T.setVm s.vm).sameButNew ({ U with vm := s.vm } : State) [] (0 + 1) (0 + 6) := ⟨e1, e2⟩
    have h3 := X.same.trans h2
    rw [List.append_nil] at h3
    exact h3.mono hc hs
  refine ⟨U, ?_, .threw T.heap.size, hrun, hend, Or.inr ⟨T.heap.size, rfl, cls, ce, locs, hx U hWs.alike f1 (fun q hq => f2 q hq (fun z hz => nomatch hz)), hce, hO.vm, hcl, hWs, hall, hf⟩⟩
  refine st1 _ ?_
  show Steps p.tables e below (T1.setTop { method := m, pc := pc + 3, locals := ls, stack := .ref T.heap.size :: rest, locked := none }) _
  jvm_step X₁.here [X₁.here.top, hexec, d3', Value.category]
  exact X₁.ldcString hexec (own := own) (text := text) (index := is) (a := sa) hown' hstr'.1 hstr'.2
    (g := { method := m, pc := pc + 4, locals := ls, stack := .ref T.heap.size :: .ref T.heap.size :: rest, locked := none }) rfl d4' _ hsteps
/-- 'throw new E("text")', the text by a wide index -/
theorem vx_throwSW {cc : ByteArray} {pc : Nat} (hexec : p.tables.exec = Jvm.exec) (hb : c.code = cc) (hl : l.stackTraces = false) {own cls text : String} {names : List String} {ik is ic mc ms sa : Nat} {A : Nat → Prop}
    (hown : s.vm.findClass own = some m.cls) (hcls : Bundle.fit cls = true) (hnames : ∀ n ∈ names, Bundle.fit n = true)
    (hk : (Cond.classLink own ik cls).before args s = true) (hini : (Cond.initialized cls).before args s = true) (hstr : vk_R own is text sa s) (hat : ∀ w ∈ vx_atS own ic cls names, w.before args s = true)
    (hgood : ∀ w ∈ Cond.classLink own ik cls :: Cond.initialized cls :: vx_atS own ic cls names, vx_ot w = true)
    (hU : vx_Zq Bundle.tN "UNASSIGNED_STACK" Bundle.steD A s s.heap) (hN : vx_Zq Bundle.tN "SUPPRESSED_SENTINEL" Bundle.listD A s s.heap) (hS : va_S A s.heap H locs) (hsize : ls.size = c.maxLocals)
    (d0 : decode cc pc = .ok (.new ik, 3)) (d3 : decode cc (pc + 3) = .ok (.dup, 1)) (d4 : decode cc (pc + 4) = .ok (.ldc_w is, 3)) (d7 : decode cc (pc + 7) = .ok (.invokespecial ic, 3)) (d10 : decode cc (pc + 10) = .ok (.athrow, 1))
    (hout : ∀ x ∈ c.exceptionTable.toList, covers x (pc + 10) = false)
    (hRframes : names.length + 3 < R.frames) (hRlocals : (rest.map fun v => v.category).sum + (13 * (names.length + 1) + 43) ≤ R.locals) (hRcells : cells + 1 ≤ R.cells) (hRslots : slots + 6 ≤ R.slots) (hlocks : meth.locks = false)
    (hx : ∀ t : State, s.vm.Alike t.vm → H.size ≤ t.heap.size → (∀ q : Nat, q < H.size → t.heap[q]? = H[q]?) → XC cls s t)
    (hf : ∀ z ∈ locs, free z.base) (hc : cells + 1 ≤ mc) (hs : slots + 6 ≤ ms) :
    W p l e R s m args below meth c H locs cells slots (vx_MQ below Qc XC args s mc ms free) (F0 m pc ls rest) := by
  intro T hT X
  have htr : e.platform.stackTraces = false := (show e.platform.stackTraces = l.stackTraces by rw [X.admits.platform]).trans hl
  have Y := vx_rebase X (R' := { frames := R.frames, locals := R.locals, cells := 1, slots := 6 }) (Nat.le_refl _) (Nat.le_refl _) hRcells hRslots
  obtain ⟨s', hA⟩ : ∃ z, z = (T.setVm s.vm).setFrames (.invoking m args :: below) := ⟨_, rfl⟩
  rw [← hA] at Y
  have hvm : s'.vm = s.vm := by rw [hA]; rfl
  have hhp : s'.heap = H := by rw [hA]; exact hT
  have hW0 : s.WarmedH s'.vm := by rw [hvm]; exact State.WarmedH.refl s
  have hat' : ∀ w ∈ vx_atS own ic cls names, w.before args s' = true := fun w hw => vx_ot_at hW0 hvm.symm (hgood w (List.mem_cons_of_mem _ (List.mem_cons_of_mem _ hw))) (hat w hw)
  have hk' : (Cond.classLink own ik cls).before args s' = true := vx_ot_at hW0 hvm.symm (hgood _ List.mem_cons_self) hk
  have hini' : (Cond.initialized cls).before args s' = true := vx_ot_at hW0 hvm.symm (hgood _ (List.mem_cons_of_mem _ List.mem_cons_self)) hini
  have hU' : vx_Zq Bundle.tN "UNASSIGNED_STACK" Bundle.steD A s' s'.heap := by rw [hhp]; exact vx_Zq.moved hW0.alike (hU.kept hS.2.1)
  have hN' : vx_Zq Bundle.tN "SUPPRESSED_SENTINEL" Bundle.listD A s' s'.heap := by rw [hhp]; exact vx_Zq.moved hW0.alike (hN.kept hS.2.1)
  have h : ∀ w ∈ Bundle.ownAtoms own ic cls names, w.before args s' = true := vx_own hat' (vx_isRefq hU'.1) (vx_isRefq hN'.1) hU'.2.word hN'.2.word
  have hown' : s'.vm.findClass own = some m.cls := by rw [hvm]; exact hown
  have hins : (Cond.instantiable cls 6).before args s' = true := h _ (by simp [Bundle.ownAtoms])
  obtain ⟨vm₁, cX, kX, hfX, hkX, -, -, X₁, st1⟩ := Y.newCold hexec (own := own) (C := cls) (index := ik) (n := 6) hown' hk' hins hini'
    (g := F0 m pc ls rest) rfl (by rw [hb]; exact d0) (Nat.le_refl _) (Nat.le_refl _)
  generalize hT1 : (T.setVm vm₁).pushCell { cls := cX, slots := kX.instanceTypes.map defaultValue, vm := .none } = T1 at X₁ st1
  have hcat : (Value.ref T.heap.size).category = 1 := rfl
  have hcellA : T1.heap[T.heap.size]? = some (freshCell cX kX) := by rw [← hT1]; exact State.heap_pushCell_size _ _
  have d3' : decode c.code (pc + 3) = .ok (.dup, 1) := by rw [hb]; exact d3
  have d4' : decode c.code (pc + 4) = .ok (.ldc_w is, 3) := by rw [hb]; exact d4
  have hstr' : vk_R own is text sa s' := vk_R.warm hW0 hstr
  obtain ⟨U, hsteps, hrun, hend, hW, hsame, ce, hce, hO⟩ := X₁.ctorThrowS hexec htr (own := own) (cls := cls) (names := names) (ic := ic) hown' hcls hnames h (fun x hx => nomatch hx) hfX hkX hcellA (by rw [hhp, hT]; exact Nat.le_refl _) (msg := .ref sa) rfl
    (g := { method := m, pc := pc + 7, locals := ls, stack := .ref sa :: .ref T.heap.size :: .ref T.heap.size :: rest, locked := none }) rfl hsize rfl rfl (rest := rest) rfl
    (by rw [hb]; exact d7) (by rw [hb]; exact d10) hout hRframes (by simp only [List.map_cons, List.sum_cons, hcat]; omega) hlocks
  obtain ⟨f1, f2⟩ := vx_frame hsame
  rw [hhp] at f1 f2
  have hWs : s.WarmedH U.vm := State.WarmedH.trans hW0 hW
  have hcl : s.vm.findClass cls = some ce.cls := by
    have h9 := hO.cls
    rw [hvm] at h9
    exact h9
  have hall : s.sameButNew ({ U with vm := s.vm } : State) locs mc ms := by
    subst hA
    obtain ⟨e1, e2⟩ := hsame
    rw [State.setFrames_setFrames] at e1
    have h2 : (T.setVm s.vm).sameButNew ({ U with vm := s.vm } : State) [] (0 + 1) (0 + 6) := ⟨e1, e2⟩
    have h3 := X.same.trans h2
    rw [List.append_nil] at h3
    exact h3.mono hc hs
  refine ⟨U, ?_, .threw T.heap.size, hrun, hend, Or.inr ⟨T.heap.size, rfl, cls, ce, locs, hx U hWs.alike f1 (fun q hq => f2 q hq (fun z hz => nomatch hz)), hce, hO.vm, hcl, hWs, hall, hf⟩⟩
  refine st1 _ ?_
  show Steps p.tables e below (T1.setTop { method := m, pc := pc + 3, locals := ls, stack := .ref T.heap.size :: rest, locked := none }) _
  jvm_step X₁.here [X₁.here.top, hexec, d3', Value.category]
  exact X₁.ldcStringW hexec (own := own) (text := text) (index := is) (a := sa) hown' hstr'.1 hstr'.2
    (g := { method := m, pc := pc + 4, locals := ls, stack := .ref T.heap.size :: .ref T.heap.size :: rest, locked := none }) rfl d4' _ hsteps
end Ends
section Bodies
variable {l : Launch}
theorem vx_ofW {y : MethodName} {ws ws' : List Cond} {rm : Room} {Pc : Array Value → State → Prop} {Qc : Array Value → State → Outcome → State → Prop} {XC : String → State → State → Prop} {mc ms : Nat} {free : Addr → Prop} {cc : ByteArray} {maxL : Nat} {ret : Option FieldType}
    (hy : plainName y.cls = true) (hw : ws = Cond.code y cc maxL ret :: ws')
    (body : ∀ p e s m args below meth c s₁, BodyLoose p l y (headSpec ws rm) cc maxL ret e s m args below meth c s₁ → c.maxLocals = maxL → (∀ x ∈ c.exceptionTable.toList, False) → Pc args s →
      W p l e (headSpec ws rm).room s m args below meth c s.heap [] 0 0 (vx_MQ below Qc XC args s mc ms free) (entryFrame m args maxL)) : vx_Met l y ws rm Pc Qc XC mc ms free := by
  refine MetFree.of_bodyS (code := cc) (maxLocals := maxL) (ret := ret) hy ?_ ?_
  · intro args s m h hn
    obtain ⟨meth, c, h1, h2, h3, h4, h5, h6, -, -⟩ := Cond.code_spec hn (atoms_spec (ws := ws) h _ (by rw [hw]; exact List.mem_cons_self))
    exact ⟨meth, c, h1, h2, h3, h4, h5, h6⟩
  · intro p e s m args below meth c s₁ B hml hP _
    have hh0 : s₁.heap = s.heap := by rw [B.state]; rfl
    have ht : ∀ x ∈ c.exceptionTable.toList, False := by
      obtain ⟨meth9, c9, h1, h2, -, -, -, -, h7, -⟩ := Cond.code_spec B.named (atoms_spec (ws := ws) B.pre _ (by rw [hw]; exact List.mem_cons_self))
      cases Option.some.inj (h1.symm.trans B.method)
      cases Option.some.inj (h2.symm.trans (Stand.of_body B).code)
      intro x hx
      rw [Array.isEmpty_iff.mp h7] at hx
      cases hx
    obtain ⟨t, a1, o, b1, b2, b3⟩ := body p e s m args below meth c s₁ B hml ht hP s₁ hh0 (Stand.of_body B)
    exact ⟨t, o, a1, b1, b2, b3⟩
/-- the table of a body with handlers -/
theorem vx_table {p : Program} {x y : MethodName} {S : Spec} {cc bytes : ByteArray} {maxL maxL' : Nat} {ret ret' : Option FieldType} {e : Env} {s s₁ : State} {m : MethodId} {args : Array Value} {below : List Frame} {meth : Method} {c : Code} {hh : List (Nat × Nat × Nat × Nat)}
    (B : BodyLoose p l y S cc maxL ret e s m args below meth c s₁) (h : (Cond.codeWith y bytes maxL' ret' hh).before args s = true) : c.exceptionTable.toList = tableOf hh := by
  obtain ⟨m9, meth9, c9, hn9, h1, h2, -, -, h6, -⟩ := Cond.codeWith_spec h
  cases Option.some.inj (hn9.symm.trans B.named)
  cases Option.some.inj (h1.symm.trans B.method)
  cases Option.some.inj (h2.symm.trans (Stand.of_body B).code)
  rw [← h6, table_eq]
end Bodies
end VXA
/-! ===== END ===== -/
/-! ===== BEGIN a static call of a method with an exception table ===== -/
section VXS
variable {p : Program} {l : Launch} {e : Env} {R : Room} {s : State} {m : MethodId} {args : Array Value} {below : List Frame} {meth : Method} {c : Code} {T : State} {H : Heap} {locs : List Loc} {cells slots : Nat}
abbrev vx_CSW (R : Room) (s : State) (args : Array Value) (own : String) (index : Nat) (y : MethodName) (bytes : ByteArray) (maxL : Nat) (ret : Option FieldType) (hh : List (Nat × Nat × Nat × Nat)) (ws : List Cond) (rm : Room) (mc ms n : Nat) : Prop :=
  (rm.cells = mc ∧ rm.slots = ms ∧ rm.frames + 1 ≤ R.frames ∧ 8 + (maxL + 11) + rm.locals ≤ R.locals ∧ (∀ w ∈ ws, ∀ (a' : Array Value) (U : State), s.WarmedH U.vm → w.before a' U = true) ∧ Cond.codeWith y bytes maxL ret hh ∈ ws) ∧
  (Cond.codeWith y bytes maxL ret hh).before args s = true ∧ (Cond.initialized y.cls).before args s = true ∧ (y.cls ≠ "java/lang/invoke/MethodHandle" ∧ y.cls ≠ "java/lang/invoke/VarHandle") ∧
  (∀ sig, parseMethodDescriptor y.desc = some sig → n = sig.parameters.length) ∧ (Cond.methodLink own index y).before args s = true ∧ (Cond.static y).before args s = true
theorem vx_cwSW {own : String} {index maxL mc ms : Nat} {y : MethodName} {bytes : ByteArray} {ret : Option FieldType} {hh : List (Nat × Nat × Nat × Nat)} {Ts ws ws' : List Cond} {rm : Room} (n : Nat) (ht : ∀ w ∈ Ts, w.before args s = true) (hT : GoodIn Ts (va_wsS own index y ws)) (hw : ws = Cond.codeWith y bytes maxL ret hh :: ws') (hrc : rm.cells = mc) (hrs : rm.slots = ms)
    (hd : y.cls ≠ "java/lang/invoke/MethodHandle" ∧ y.cls ≠ "java/lang/invoke/VarHandle" ∧ (parseMethodDescriptor y.desc).map (fun d => d.parameters.length) = some n) (hR : rm.frames + 1 ≤ R.frames ∧ 8 + (maxL + 11) + rm.locals ≤ R.locals) :
    vx_CSW R s args own index y bytes maxL ret hh ws rm mc ms n := by
  have ok : ∀ w ∈ va_wsS own index y ws, w.before args s = true := fun w h => ht w (hT w h).1
  have hG : GoodIn Ts ws := fun w h => hT w (by unfold va_wsS; exact List.mem_append_right _ h)
  have hc : Cond.codeWith y bytes maxL ret hh ∈ ws := by rw [hw]; exact List.mem_cons_self
  refine ⟨⟨hrc, hrs, hR.1, hR.2, pay_in ht hG, hc⟩, ht _ (hG _ hc).1, ok _ (by simp [va_wsS]), ⟨hd.1, hd.2.1⟩, fun sig h => ?_, ok _ (by simp [va_wsS]), ok _ (by simp [va_wsS])⟩
  have h2 := hd.2.2
  rw [h] at h2
  exact (Option.some.inj h2).symm
theorem vx_callSW (X : Stand p l e R s m args below meth c T locs cells slots) (hexec : p.tables.exec = Jvm.exec) {own : String} {index : Nat} {y : MethodName} {bytes : ByteArray} {maxL : Nat} {ret : Option FieldType} {hh : List (Nat × Nat × Nat × Nat)}
    (hown : s.vm.findClass own = some m.cls) (hlink : (Cond.methodLink own index y).before args s = true) (hstat : (Cond.static y).before args s = true) (hinit : (Cond.initialized y.cls).before args s = true)
    (hcode : (Cond.codeWith y bytes maxL ret hh).before args s = true) (hy : y.cls ≠ "java/lang/invoke/MethodHandle" ∧ y.cls ≠ "java/lang/invoke/VarHandle")
    {W9 : Nat} {Pre : Pt → Array Value → Prop} {Post : Pt → Array Value → Option Value → Pt → Prop} (hK : Back l R p e below s args y 3 W9 Pre Post)
    {g : JFrame} (hg : g.method = m) (hsize : g.locals.size = c.maxLocals) {argsL rest : List Value} (hlen : ∀ sig, parseMethodDescriptor y.desc = some sig → argsL.length = sig.parameters.length)
    (hstack : g.stack = argsL.reverse ++ rest) (hW : 2 * g.monitorRoom + (rest.map fun v => v.category).sum ≤ W9) (hdg : decode c.code g.pc = .ok (.invokestatic index, 3))
    (hpre : ∀ vm₁, s.WarmedH vm₁ → Pre ⟨T.setVm vm₁, locs, cells, slots⟩ argsL.toArray) :
    ∃ (v : Option Value) (vm₁ : Vm) (B : Pt), s.WarmedH vm₁ ∧ Stand p l e R s m args below meth c B.U B.locs B.cells B.slots ∧ Post ⟨T.setVm vm₁, locs, cells, slots⟩ argsL.toArray v B ∧
      ∀ target, Steps p.tables e below (B.U.setTop { g with pc := g.pc + 3, stack := v.toList ++ rest }) target → Steps p.tables e below (T.setTop g) target := by
  obtain ⟨mk, methM, cM, hnamed, hmethM, -, -, -, -, -, -, hsigM⟩ := Cond.codeWith_spec hcode
  have hstatic : methM.isStatic = true := Cond.static_spec hnamed hmethM hstat
  obtain ⟨kP, hkP, -⟩ := className_of_methodNamed hnamed
  have hinitP : kP.init = .initialized := Cond.initialized_spec (findClass_of_methodNamed hnamed) hkP hinit
  obtain ⟨vm₁, X₁, hstep₁⟩ := X.invokestatic hexec hown hlink hnamed hmethM hstatic hkP hinitP hy (g := g) hg (argsL := argsL) (rest := rest) (hlen _ hsigM) hstack hdg
  obtain ⟨v, B, X', hpost, hsteps⟩ := hK m meth c ⟨T.setVm vm₁, locs, cells, slots⟩ { g with stack := rest } (.invokestatic index) mk argsL.toArray X₁ hg hsize hdg hW (X₁.named hnamed) (hpre vm₁ X₁.warmed)
  exact ⟨v, vm₁, B, X₁.warmed, X', hpost, fun target h => hstep₁ _ fun acts => by rw [doInvoke_state]; exact hsteps.trans h⟩
theorem vx_runSW {y : MethodName} {bytes cc : ByteArray} {maxL nL mc ms n index : Nat} {ret : Option FieldType} {hh : List (Nat × Nat × Nat × Nat)} {ws : List Cond} {rm : Room} {Pc : Array Value → State → Prop} {Qc : Array Value → State → Outcome → State → Prop} {free : Addr → Prop} {Ts : List Cond} {own : String} {As rest : List Value} {g : JFrame}
    (S : CallFix p m c cc nL s args Ts own) (hM : Met l y ws rm Pc Qc mc ms free) (cw : vx_CSW R s args own index y bytes maxL ret hh ws rm mc ms n) (hp : PreS s H Pc As)
    (hg : g.method = m) (hn : As.length = n) (hsize : g.locals.size = nL) (hstack : g.stack = As.reverse ++ rest) (hW : 2 * g.monitorRoom + (rest.map fun v => v.category).sum ≤ 8) (hdg : decode cc g.pc = .ok (.invokestatic index, 3)) (hf : cells + mc ≤ R.cells ∧ slots + ms ≤ R.slots) :
    va_Run p l e R s m args below meth c H locs cells slots mc ms g rest (Qc As.toArray) (free) := by
  obtain ⟨⟨hrc, hrs, hfr, hlo, hws, hcw⟩, hcode, hini, hy, hlen, hl, hstt⟩ := cw
  have hK : Back l R p e below s args y 3 8 (PreOf R mc ms Pc) (PostOf Qc mc ms free) := va_backW (hh := hh) (bytes := bytes) (maxL := maxL) (ret := ret) hM hp.1 hrc hrs hfr hlo hws hcw (fun a' U hW => word_at hW (Or.inl (by first | rfl | simp [Cond.onTables, Cond.keeps, Cond.steady])) hini)
  obtain ⟨hx, hb, hml, ho, -⟩ := S
  intro T hT X
  obtain ⟨v, vm₁, ⟨U', l2, c2, s2⟩, hW₁, X', ⟨g', mk, t, L, e1, e2, hq, h1, hL, h2, h3⟩, st⟩ := vx_callSW X hx (hh := hh) (bytes := bytes) (maxL := maxL) (ret := ret) ho hl hstt hini hcode hy hK hg (hsize.trans hml.symm) (argsL := As) (rest := rest) (fun sig h => hn.trans (hlen sig h)) hstack hW (by rw [hb]; exact hdg)
    (fun vm₁ hW₁ => ⟨hf.1, hf.2, hp.2 (T.setVm vm₁) hT hW₁⟩)
  dsimp only [Pt.U, Pt.locs, Pt.cells, Pt.slots] at X' e1 e2 h1 h2 h3 st
  subst h1; subst h2; subst h3
  exact ⟨v, (T.setVm vm₁).calling g' mk As.toArray, t, U', L, hT, X', hL, e1, e2, hq, st⟩
/-- not caught here, past rows that name other classes: it goes on to the caller -/
theorem vx_outP {p : Program} {l : Launch} {e : Env} {R : Room} {s : State} {m : MethodId} {args : Array Value} {below : List Frame} {meth : Method} {c : Code} {H : Heap} {locs : List Loc} {cells slots : Nat} {free : Addr → Prop} {ls : Array Slot} {rest : List Value} {Qc : Array Value → State → Outcome → State → Prop} {XC : String → State → State → Prop}
    {pc : Nat} {own E : String} {ce : Cell} {q : Addr} {mc ms : Nat} (hown : s.vm.findClass own = some m.cls) (hlocks : meth.locks = false)
    (hpass : ∀ z ∈ c.exceptionTable.toList, covers z pc = false ∨ (z.catchType ≠ 0 ∧ ∃ nm : String, (Cond.classLink own z.catchType nm).before args s = true ∧ va_Nc E nm s)) (hcell : H[q]? = some ce) (hv : ce.vm = .none) (hcl : s.vm.findClass E = some ce.cls)
    (hx : ∀ t : State, t.heap = H → s.vm.Alike t.vm → XC E s t) (hf : ∀ z ∈ locs, free z.base) (hc : cells ≤ mc) (hs : slots ≤ ms) :
    vx_W p l e R s m args below meth c H locs cells slots (vx_MQ below Qc XC args s mc ms free) (F0 m pc ls rest) q := by
  intro T hT X
  have hpl : e.platform.magicAccessors = ({} : Platform).magicAccessors := by rw [X.admits.platform]
  obtain ⟨vm', hW', X', st⟩ := X.outThrough hlocks q (g := F0 m pc ls rest) rfl rfl rfl (cell := ce) (by rw [hT]; exact hcell) (by rw [hv]; rfl)
    (by obtain ⟨k9, h9, -⟩ := Vm.findClass_spec hcl; exact ⟨k9, h9⟩) (fun z hz => by
      rcases hpass z hz with h | ⟨hz0, nm, hl1, hn1⟩
      · exact Or.inl h
      · obtain ⟨c6, hc6, hcl6⟩ := Cond.classLink_spec hown hl1 e.platform hpl
        obtain ⟨a8, b8, h1, h2, h3⟩ := hn1
        cases Option.some.inj (h1.symm.trans hcl)
        cases Option.some.inj (h2.symm.trans hc6)
        exact Or.inr ⟨hz0, _, hcl6, h3⟩)
  obtain ⟨g₀, hfr⟩ := X'.frames_eq
  have hcell9 : ((T.setVm vm').setFrames (.throwing q :: below)).heap[q]? = some ce := by
    show T.heap[q]? = some ce
    rw [hT]; exact hcell
  have hend : Ended ((T.setVm vm').setFrames (.throwing q :: below)) below (.threw q) := State.frames_setFrames _ (State.cur_lt_of_frames hfr)
  refine ⟨(T.setVm vm').setFrames (.throwing q :: below), ?_, .threw q, X'.here.running, hend, Or.inr ⟨q, rfl, E, ce, locs, hx _ hT (X'.ends _).1.alike, hcell9, hv, hcl, (X'.ends _).1, (X'.ends _).2.mono hc hs, hf⟩⟩
  rw [X.pushThrowing_eq]
  exact st
/-- a thing of a world lies in the heap -/
theorem vx_lt {D : va_G} {cl : List vw_C} {ws : va_W} {H1 : Heap} (h : va_P D cl ws H1) {k : Nat} {q : Nat × va_E} (hk : ws[k]? = some q) : q.1 < H1.size := (h k q hk).lt
end VXS
/-! ===== END ===== -/
/-! ===== BEGIN methods with a table of their own: called by a name, returning or throwing ===== -/
section VXH
/-! vx_backW, vx_callVX, vx_callSX, vx_callVW, vx_runVW, vx_runVX, vx_runSX, vx_ofWH follow the same proofs as their sisters above (Free/Laws.lean, Shelf42/LK1.lean); vx_outP calls Shelf42/NT130.lean (outThrough). -/
section
variable {l : Launch} {R : Room} {p : Program} {e : Env} {below : List Frame} {s : State} {sargs : Array Value} {y : MethodName} {len W9 : Nat}
theorem vx_backW {ws : List Cond} {rm : Room} {Pc : Array Value → State → Prop} {Qc : Array Value → State → Outcome → State → Prop} {XC : String → State → State → Prop} {mc ms : Nat} {free : Addr → Prop} {bytes : ByteArray} {maxL : Nat} {ret : Option FieldType} {hh : List (Nat × Nat × Nat × Nat)}
    (hM : vx_Met l y ws rm Pc Qc XC mc ms free) (hblind : FrameBlind Pc) (hrc : rm.cells = mc) (hrs : rm.slots = ms)
    (hframes : rm.frames + 1 ≤ R.frames) (hlocals : W9 + (maxL + 11) + rm.locals ≤ R.locals)
    (hws : ∀ w ∈ ws, ∀ a' U, s.WarmedH U.vm → w.before a' U = true) (hcode : Cond.codeWith y bytes maxL ret hh ∈ ws) (hinit : ∀ a' U, s.WarmedH U.vm → (Cond.initialized y.cls).before a' U = true) :
    vx_Back l R p e below s sargs y len W9 (PreOf R mc ms Pc) (PostOf Qc mc ms free) (vx_Post XC mc ms free) := by
  intro m meth c A g ig mk a X hg hsize hdg hW hn hp
  have h1 : (headSpec ws rm).pre.before a A.U = true := atoms_intro fun w hw => hws w hw _ _ X.warmed
  have h2 : (Cond.codeWith y bytes maxL ret hh).before a A.U = true := hws _ hcode _ _ X.warmed
  have h3 : (Cond.initialized y.cls).before a A.U = true := hinit _ _ X.warmed
  have h4 : A.cells + (headSpec ws rm).room.cells ≤ R.cells := by rw [show (headSpec ws rm).room.cells = mc from hrc]; exact hp.1
  have h5 : A.slots + (headSpec ws rm).room.slots ≤ R.slots := by rw [show (headSpec ws rm).room.slots = ms from hrs]; exact hp.2.1
  have hPc : Pc a (A.U.calling g mk a) := hblind _ _ _ _ hp.2.2
  obtain ⟨U, Ls, c0, s0⟩ := A
  dsimp only [Pt.U, Pt.locs, Pt.cells, Pt.slots] at h1 h2 h3 h4 h5 X hn hPc ⊢
  obtain ⟨m9, methY, cY, hn9, hmY, hcY, -, hlY, -⟩ := Cond.codeWith_spec h2
  cases Option.some.inj (hn9.symm.trans hn)
  obtain ⟨kY, hkY, -⟩ := className_of_methodNamed hn
  have hinitY : kY.init = .initialized := Cond.initialized_spec (findClass_of_methodNamed hn) hkY h3
  have h : At U g.method c below := by rw [hg]; exact X.here
  have hlocals9 : W9 + (maxL + 11) + (headSpec ws rm).room.locals ≤ R.locals := hlocals
  have happ : (headSpec ws rm).appliesLoose y e.platform (U.calling g mk a) = true :=
    Spec.appliesLoose_calling (g := g) h hdg hn hkY hinitY
      (X.room_calling (g := g) (R' := (headSpec ws rm).room) hsize hmY hcY hframes (by rw [hlY]; omega) h4 h5) h1
  obtain ⟨mid, hmid⟩ := h.above
  have hfr : (U.setTop g).frames = (.java g :: mid) ++ below := by rw [State.frames_setTop' g h.top, hmid]; rfl
  obtain ⟨o, s₂, hsteps, -, hend, hq⟩ := Steps.callFree hM p X.admits X.cas X.clock (acts := []) hfr happ hPc trivial
  have hq' : vx_Q Qc XC mc ms free a (U.calling g mk a) o s₂ := hq
  rw [State.frames_setTop' g h.top] at hend
  obtain ⟨g₀, hg0⟩ := Option.isSome_iff_exists.mp h.top
  obtain ⟨r, hr⟩ := State.topJava?_eq_some.mp hg0
  have hr' : (({ U with heap := s₂.heap, slotsUsed := s₂.slotsUsed } : State).setVm s₂.vm).frames = .java g₀ :: r := hr
  rcases hq' with ⟨hqc, L, hfe, hL⟩ | ⟨q, rfl, E, ce, L, hx, hce, hcv, hcl, hW₂, hsm, hL⟩
  · obtain ⟨⟨v, rfl⟩, hW₂, e2, q2, q3, q4, q5, q6⟩ := id hfe
    have e3 : s₂ = ({ (U.calling g mk a).setFrames s₂.frames with heap := s₂.heap, slotsUsed := s₂.slotsUsed } : State).setVm s₂.vm := by
      have : s₂ = ({ s₂ with vm := (U.calling g mk a).vm } : State).setVm s₂.vm := rfl
      rw [e2] at this
      exact this
    obtain ⟨c₂, i₂, len₂, hc₂, hd₂, hf₂⟩ := hend
    have hW' : U.WarmedH s₂.vm := hW₂
    have hcc : c₂ = c := by
      have h1 : s₂.code? g.method = U.code? g.method := by
        rw [State.code?_eq, State.code?_eq, hW'.alike.method?]
      exact Option.some.inj (hc₂.symm.trans (h1.trans h.code))
    subst hcc
    have hlen : len₂ = len := by rw [hdg] at hd₂; cases hd₂; rfl
    subst hlen
    have hs₂ : s₂ = (({ U with heap := s₂.heap, slotsUsed := s₂.slotsUsed } : State).setVm s₂.vm).setTop { g with pc := g.pc + len₂, stack := v.toList ++ g.stack } := by
      refine e3.trans ?_
      rw [hf₂, State.calling_eq h.top, State.setFrames_setFrames, State.setTop_of_frames _ hr', hr]
      rfl
    have hsame : U.sameButNew ({ U with heap := s₂.heap, slotsUsed := s₂.slotsUsed } : State) L mc ms := by
      refine ⟨?_, q2, q3, q4, q5, q6⟩
      obtain ⟨t, ht, -⟩ := State.frames_cons hr
      show ({ U with heap := s₂.heap, slotsUsed := s₂.slotsUsed } : State) = { U.setFrames U.frames with heap := s₂.heap, slotsUsed := s₂.slotsUsed }
      rw [State.setFrames_self ht]
    subst hg
    refine Or.inl ⟨v, ⟨(({ U with heap := s₂.heap, slotsUsed := s₂.slotsUsed } : State).setVm s₂.vm), Ls ++ L, c0 + mc, s0 + ms⟩,
      ⟨X.admits, X.cas, X.clock, X.frames, X.room, X.hears, X.method, X.code, (X.here.setHeapUsed s₂.heap s₂.slotsUsed).setVm hW'.alike, X.tail, State.WarmedH.trans X.warmed hW', X.limits, X.bytes, X.same.trans (hsame.setVm s.vm)⟩,
      ⟨g, mk, s₂, L, rfl, rfl, hqc, rfl, hL, rfl, rfl⟩, ?_⟩
    show Steps p.tables e below _ ((({ U with heap := s₂.heap, slotsUsed := s₂.slotsUsed } : State).setVm s₂.vm).setTop { g with pc := g.pc + len₂, stack := v.toList ++ g.stack })
    rw [← hs₂]
    exact hsteps
  · obtain ⟨e2, q2, q3, q4, q5, q6⟩ := id hsm
    have e3 : s₂ = ({ (U.calling g mk a).setFrames s₂.frames with heap := s₂.heap, slotsUsed := s₂.slotsUsed } : State).setVm s₂.vm := by
      have : s₂ = ({ s₂ with vm := (U.calling g mk a).vm } : State).setVm s₂.vm := rfl
      rw [e2] at this
      exact this
    have hf₂ : s₂.frames = .throwing q :: .java g :: U.frames.tail := hend
    have hW' : U.WarmedH s₂.vm := hW₂
    have hs₂ : s₂ = ((({ U with heap := s₂.heap, slotsUsed := s₂.slotsUsed } : State).setVm s₂.vm).setTop g).pushFrame (.throwing q) := by
      refine e3.trans ?_
      rw [hf₂, State.calling_eq h.top, State.setFrames_setFrames, State.pushFrame, State.frames_setTop _ hr', State.setTop_of_frames _ hr', State.setFrames_setFrames, hr]
      rfl
    have hsame : U.sameButNew ({ U with heap := s₂.heap, slotsUsed := s₂.slotsUsed } : State) L mc ms := by
      refine ⟨?_, q2, q3, q4, q5, q6⟩
      obtain ⟨t, ht, -⟩ := State.frames_cons hr
      show ({ U with heap := s₂.heap, slotsUsed := s₂.slotsUsed } : State) = { U.setFrames U.frames with heap := s₂.heap, slotsUsed := s₂.slotsUsed }
      rw [State.setFrames_self ht]
    subst hg
    refine Or.inr ⟨q, ⟨(({ U with heap := s₂.heap, slotsUsed := s₂.slotsUsed } : State).setVm s₂.vm), Ls ++ L, c0 + mc, s0 + ms⟩,
      ⟨X.admits, X.cas, X.clock, X.frames, X.room, X.hears, X.method, X.code, (X.here.setHeapUsed s₂.heap s₂.slotsUsed).setVm hW'.alike, X.tail, State.WarmedH.trans X.warmed hW', X.limits, X.bytes, X.same.trans (hsame.setVm s.vm)⟩,
      ⟨g, mk, s₂, L, E, ce, rfl, rfl, hx, hce, hcv, hcl, rfl, hL, rfl, rfl⟩, ?_⟩
    show Steps p.tables e below _ (((({ U with heap := s₂.heap, slotsUsed := s₂.slotsUsed } : State).setVm s₂.vm).setTop g).pushFrame (.throwing q))
    rw [← hs₂]
    exact hsteps
end
variable {p : Program} {l : Launch} {e : Env} {R : Room} {s : State} {m : MethodId} {args : Array Value} {below : List Frame} {meth : Method} {c : Code} {T : State} {H : Heap} {locs : List Loc} {cells slots : Nat}
theorem vx_callVX (X : Stand p l e R s m args below meth c T locs cells slots) (hexec : p.tables.exec = Jvm.exec) {own C : String} {index : Nat} {y : MethodName} {bytes : ByteArray} {maxL : Nat} {ret : Option FieldType} {hh : List (Nat × Nat × Nat × Nat)}
    (hown : s.vm.findClass own = some m.cls) (hlink : (Cond.methodLink own index y).before args s = true) (hinst : (Cond.instanceMethod y).before args s = true) (hsel : (Cond.selects C y y).before args s = true)
    (hcode : (Cond.codeWith y bytes maxL ret hh).before args s = true) (hy : y.cls ≠ "java/lang/invoke/MethodHandle" ∧ y.cls ≠ "java/lang/invoke/VarHandle")
    {W9 : Nat} {Pre : Pt → Array Value → Prop} {Post : Pt → Array Value → Option Value → Pt → Prop} {PostX : Pt → Array Value → Addr → Pt → Prop} (hK : vx_Back l R p e below s args y 3 W9 Pre Post PostX)
    {b : Addr} {cellB : Cell} (hcell : T.heap[b]? = some cellB) (hobj : cellB.vm.isStatics = false) (hcls : s.vm.findClass C = some cellB.cls)
    {g : JFrame} (hg : g.method = m) (hsize : g.locals.size = c.maxLocals) {argsL rest : List Value} (hlen : ∀ sig, parseMethodDescriptor y.desc = some sig → argsL.length = sig.parameters.length)
    (hstack : g.stack = argsL.reverse ++ .ref b :: rest) (hW : 2 * g.monitorRoom + (rest.map fun v => v.category).sum ≤ W9) (hdg : decode c.code g.pc = .ok (.invokevirtual index, 3))
    (hpre : ∀ vm₁, s.WarmedH vm₁ → Pre ⟨T.setVm vm₁, locs, cells, slots⟩ (Value.ref b :: argsL).toArray) :
    (∃ (v : Option Value) (vm₁ : Vm) (B : Pt), s.WarmedH vm₁ ∧ Stand p l e R s m args below meth c B.U B.locs B.cells B.slots ∧ Post ⟨T.setVm vm₁, locs, cells, slots⟩ (Value.ref b :: argsL).toArray v B ∧
      ∀ target, Steps p.tables e below (B.U.setTop { g with pc := g.pc + 3, stack := v.toList ++ rest }) target → Steps p.tables e below (T.setTop g) target) ∨
    (∃ (q : Addr) (vm₁ : Vm) (B : Pt), s.WarmedH vm₁ ∧ Stand p l e R s m args below meth c B.U B.locs B.cells B.slots ∧ PostX ⟨T.setVm vm₁, locs, cells, slots⟩ (Value.ref b :: argsL).toArray q B ∧
      Steps p.tables e below (T.setTop g) ((B.U.setTop { g with stack := rest }).pushFrame (.throwing q))) := by
  obtain ⟨mk, methM, hnamed, hmethM, hstM, habM⟩ := Cond.instanceMethod_spec hinst
  obtain ⟨m8, methM', cM, hn8, hmethM', -, -, -, -, -, -, hsigM⟩ := Cond.codeWith_spec hcode
  cases Option.some.inj (hn8.symm.trans hnamed)
  cases hmethM.symm.trans hmethM'
  obtain ⟨c2, r2, m2, q1, q2, q3, q4, kP, hkP, hkPi⟩ := Cond.selects_spec hsel
  cases hcls.symm.trans q1
  cases (State.methodFound?_of_named hnamed hy).symm.trans q2
  cases hnamed.symm.trans q3
  have hselP : selectMethod e.platform s.vm cellB.cls mk = .method mk := by rw [Launch.admits_selectMethod X.admits]; exact q4
  obtain ⟨vm₁, X₁, hstep₁⟩ := X.invokevirtual hexec hown hlink hnamed hmethM hstM hkP hkPi hy (a := b) (cell := cellB) hcell
    (fun z h => by rw [h] at hobj; cases hobj) hselP hmethM habM hkP hkPi (g := g) hg (argsL := argsL) (rest := rest) (hlen _ hsigM) hstack hdg
  rcases hK m meth c ⟨T.setVm vm₁, locs, cells, slots⟩ { g with stack := rest } (.invokevirtual index) mk (Value.ref b :: argsL).toArray X₁ hg hsize hdg hW (X₁.named hnamed) (hpre vm₁ X₁.warmed) with ⟨v, B, X', hpost, hsteps⟩ | ⟨q, B, X', hpost, hsteps⟩
  · exact Or.inl ⟨v, vm₁, B, X₁.warmed, X', hpost, fun target h => hstep₁ _ fun acts => by rw [doInvoke_state]; exact hsteps.trans h⟩
  · exact Or.inr ⟨q, vm₁, B, X₁.warmed, X', hpost, hstep₁ _ fun acts => by rw [doInvoke_state]; exact hsteps⟩
theorem vx_callSX (X : Stand p l e R s m args below meth c T locs cells slots) (hexec : p.tables.exec = Jvm.exec) {own : String} {index : Nat} {y : MethodName} {bytes : ByteArray} {maxL : Nat} {ret : Option FieldType} {hh : List (Nat × Nat × Nat × Nat)}
    (hown : s.vm.findClass own = some m.cls) (hlink : (Cond.methodLink own index y).before args s = true) (hstat : (Cond.static y).before args s = true) (hinit : (Cond.initialized y.cls).before args s = true)
    (hcode : (Cond.codeWith y bytes maxL ret hh).before args s = true) (hy : y.cls ≠ "java/lang/invoke/MethodHandle" ∧ y.cls ≠ "java/lang/invoke/VarHandle")
    {W9 : Nat} {Pre : Pt → Array Value → Prop} {Post : Pt → Array Value → Option Value → Pt → Prop} {PostX : Pt → Array Value → Addr → Pt → Prop} (hK : vx_Back l R p e below s args y 3 W9 Pre Post PostX)
    {g : JFrame} (hg : g.method = m) (hsize : g.locals.size = c.maxLocals) {argsL rest : List Value} (hlen : ∀ sig, parseMethodDescriptor y.desc = some sig → argsL.length = sig.parameters.length)
    (hstack : g.stack = argsL.reverse ++ rest) (hW : 2 * g.monitorRoom + (rest.map fun v => v.category).sum ≤ W9) (hdg : decode c.code g.pc = .ok (.invokestatic index, 3))
    (hpre : ∀ vm₁, s.WarmedH vm₁ → Pre ⟨T.setVm vm₁, locs, cells, slots⟩ argsL.toArray) :
    (∃ (v : Option Value) (vm₁ : Vm) (B : Pt), s.WarmedH vm₁ ∧ Stand p l e R s m args below meth c B.U B.locs B.cells B.slots ∧ Post ⟨T.setVm vm₁, locs, cells, slots⟩ argsL.toArray v B ∧
      ∀ target, Steps p.tables e below (B.U.setTop { g with pc := g.pc + 3, stack := v.toList ++ rest }) target → Steps p.tables e below (T.setTop g) target) ∨
    (∃ (q : Addr) (vm₁ : Vm) (B : Pt), s.WarmedH vm₁ ∧ Stand p l e R s m args below meth c B.U B.locs B.cells B.slots ∧ PostX ⟨T.setVm vm₁, locs, cells, slots⟩ argsL.toArray q B ∧
      Steps p.tables e below (T.setTop g) ((B.U.setTop { g with stack := rest }).pushFrame (.throwing q))) := by
  obtain ⟨mk, methM, cM, hnamed, hmethM, -, -, -, -, -, -, hsigM⟩ := Cond.codeWith_spec hcode
  have hstatic : methM.isStatic = true := Cond.static_spec hnamed hmethM hstat
  obtain ⟨kP, hkP, -⟩ := className_of_methodNamed hnamed
  have hinitP : kP.init = .initialized := Cond.initialized_spec (findClass_of_methodNamed hnamed) hkP hinit
  obtain ⟨vm₁, X₁, hstep₁⟩ := X.invokestatic hexec hown hlink hnamed hmethM hstatic hkP hinitP hy (g := g) hg (argsL := argsL) (rest := rest) (hlen _ hsigM) hstack hdg
  rcases hK m meth c ⟨T.setVm vm₁, locs, cells, slots⟩ { g with stack := rest } (.invokestatic index) mk argsL.toArray X₁ hg hsize hdg hW (X₁.named hnamed) (hpre vm₁ X₁.warmed) with ⟨v, B, X', hpost, hsteps⟩ | ⟨q, B, X', hpost, hsteps⟩
  · exact Or.inl ⟨v, vm₁, B, X₁.warmed, X', hpost, fun target h => hstep₁ _ fun acts => by rw [doInvoke_state]; exact hsteps.trans h⟩
  · exact Or.inr ⟨q, vm₁, B, X₁.warmed, X', hpost, hstep₁ _ fun acts => by rw [doInvoke_state]; exact hsteps⟩
theorem vx_callVW (X : Stand p l e R s m args below meth c T locs cells slots) (hexec : p.tables.exec = Jvm.exec) {own C : String} {index : Nat} {y : MethodName} {bytes : ByteArray} {maxL : Nat} {ret : Option FieldType} {hh : List (Nat × Nat × Nat × Nat)}
    (hown : s.vm.findClass own = some m.cls) (hlink : (Cond.methodLink own index y).before args s = true) (hinst : (Cond.instanceMethod y).before args s = true) (hsel : (Cond.selects C y y).before args s = true)
    (hcode : (Cond.codeWith y bytes maxL ret hh).before args s = true) (hy : y.cls ≠ "java/lang/invoke/MethodHandle" ∧ y.cls ≠ "java/lang/invoke/VarHandle")
    {W9 : Nat} {Pre : Pt → Array Value → Prop} {Post : Pt → Array Value → Option Value → Pt → Prop} (hK : Back l R p e below s args y 3 W9 Pre Post)
    {b : Addr} {cellB : Cell} (hcell : T.heap[b]? = some cellB) (hobj : cellB.vm.isStatics = false) (hcls : s.vm.findClass C = some cellB.cls)
    {g : JFrame} (hg : g.method = m) (hsize : g.locals.size = c.maxLocals) {argsL rest : List Value} (hlen : ∀ sig, parseMethodDescriptor y.desc = some sig → argsL.length = sig.parameters.length)
    (hstack : g.stack = argsL.reverse ++ .ref b :: rest) (hW : 2 * g.monitorRoom + (rest.map fun v => v.category).sum ≤ W9) (hdg : decode c.code g.pc = .ok (.invokevirtual index, 3))
    (hpre : ∀ vm₁, s.WarmedH vm₁ → Pre ⟨T.setVm vm₁, locs, cells, slots⟩ (Value.ref b :: argsL).toArray) :
    ∃ (v : Option Value) (vm₁ : Vm) (B : Pt), s.WarmedH vm₁ ∧ Stand p l e R s m args below meth c B.U B.locs B.cells B.slots ∧ Post ⟨T.setVm vm₁, locs, cells, slots⟩ (Value.ref b :: argsL).toArray v B ∧
      ∀ target, Steps p.tables e below (B.U.setTop { g with pc := g.pc + 3, stack := v.toList ++ rest }) target → Steps p.tables e below (T.setTop g) target := by
  obtain ⟨mk, methM, hnamed, hmethM, hstM, habM⟩ := Cond.instanceMethod_spec hinst
  obtain ⟨m8, methM', cM, hn8, hmethM', -, -, -, -, -, -, hsigM⟩ := Cond.codeWith_spec hcode
  cases Option.some.inj (hn8.symm.trans hnamed)
  cases hmethM.symm.trans hmethM'
  obtain ⟨c2, r2, m2, q1, q2, q3, q4, kP, hkP, hkPi⟩ := Cond.selects_spec hsel
  cases hcls.symm.trans q1
  cases (State.methodFound?_of_named hnamed hy).symm.trans q2
  cases hnamed.symm.trans q3
  have hselP : selectMethod e.platform s.vm cellB.cls mk = .method mk := by rw [Launch.admits_selectMethod X.admits]; exact q4
  obtain ⟨vm₁, X₁, hstep₁⟩ := X.invokevirtual hexec hown hlink hnamed hmethM hstM hkP hkPi hy (a := b) (cell := cellB) hcell
    (fun z h => by rw [h] at hobj; cases hobj) hselP hmethM habM hkP hkPi (g := g) hg (argsL := argsL) (rest := rest) (hlen _ hsigM) hstack hdg
  obtain ⟨v, B, X', hpost, hsteps⟩ := hK m meth c ⟨T.setVm vm₁, locs, cells, slots⟩ { g with stack := rest } (.invokevirtual index) mk (Value.ref b :: argsL).toArray X₁ hg hsize hdg hW (X₁.named hnamed) (hpre vm₁ X₁.warmed)
  exact ⟨v, vm₁, B, X₁.warmed, X', hpost, fun target h => hstep₁ _ fun acts => by rw [doInvoke_state]; exact hsteps.trans h⟩
abbrev vx_CVW (R : Room) (s : State) (args : Array Value) (own C : String) (index : Nat) (y : MethodName) (bytes : ByteArray) (maxL : Nat) (ret : Option FieldType) (hh : List (Nat × Nat × Nat × Nat)) (ws : List Cond) (rm : Room) (mc ms n : Nat) : Prop :=
  (rm.cells = mc ∧ rm.slots = ms ∧ rm.frames + 1 ≤ R.frames ∧ 8 + (maxL + 11) + rm.locals ≤ R.locals ∧ (∀ w ∈ ws, ∀ (a' : Array Value) (U : State), s.WarmedH U.vm → w.before a' U = true) ∧ Cond.codeWith y bytes maxL ret hh ∈ ws) ∧
  (Cond.codeWith y bytes maxL ret hh).before args s = true ∧ (Cond.initialized y.cls).before args s = true ∧ (y.cls ≠ "java/lang/invoke/MethodHandle" ∧ y.cls ≠ "java/lang/invoke/VarHandle") ∧
  (∀ sig, parseMethodDescriptor y.desc = some sig → n = sig.parameters.length) ∧ (Cond.methodLink own index y).before args s = true ∧ (Cond.instanceMethod y).before args s = true ∧ (Cond.selects C y y).before args s = true
theorem vx_cwVW {own C : String} {index maxL mc ms : Nat} {y : MethodName} {bytes : ByteArray} {ret : Option FieldType} {hh : List (Nat × Nat × Nat × Nat)} {Ts ws ws' : List Cond} {rm : Room} (n : Nat) (ht : ∀ w ∈ Ts, w.before args s = true) (hT : GoodIn Ts (wsV own index C y ws)) (hw : ws = Cond.codeWith y bytes maxL ret hh :: ws') (hrc : rm.cells = mc) (hrs : rm.slots = ms)
    (hd : y.cls = C ∧ y.cls ≠ "java/lang/invoke/MethodHandle" ∧ y.cls ≠ "java/lang/invoke/VarHandle" ∧ (parseMethodDescriptor y.desc).map (fun d => d.parameters.length) = some n) (hR : rm.frames + 1 ≤ R.frames ∧ 8 + (maxL + 11) + rm.locals ≤ R.locals) :
    vx_CVW R s args own C index y bytes maxL ret hh ws rm mc ms n := by
  obtain ⟨hC, hd⟩ := hd
  subst hC
  have ok : ∀ w ∈ wsV own index y.cls y ws, w.before args s = true := fun w h => ht w (hT w h).1
  have hG : GoodIn Ts ws := fun w h => hT w (by unfold wsV; exact List.mem_append_right _ h)
  have hc : Cond.codeWith y bytes maxL ret hh ∈ ws := by rw [hw]; exact List.mem_cons_self
  refine ⟨⟨hrc, hrs, hR.1, hR.2, pay_in ht hG, hc⟩, ht _ (hG _ hc).1, ok _ (by simp [wsV]), ⟨hd.1, hd.2.1⟩, fun sig h => ?_, ok _ (by simp [wsV]), ok _ (by simp [wsV]), ok _ (by simp [wsV])⟩
  have h2 := hd.2.2
  rw [h] at h2
  exact (Option.some.inj h2).symm
theorem vx_runVW {y : MethodName} {bytes cc : ByteArray} {maxL nL mc ms n index : Nat} {ret : Option FieldType} {hh : List (Nat × Nat × Nat × Nat)} {ws : List Cond} {rm : Room} {Pc : Array Value → State → Prop} {Qc : Array Value → State → Outcome → State → Prop} {free : Addr → Prop} {Ts : List Cond} {own C : String} {b : Addr} {As rest : List Value} {g : JFrame}
    (S : CallFix p m c cc nL s args Ts own) (hM : Met l y ws rm Pc Qc mc ms free) (cw : vx_CVW R s args own C index y bytes maxL ret hh ws rm mc ms n) (hp : PreV s H C b Pc As)
    (hg : g.method = m) (hn : As.length = n) (hsize : g.locals.size = nL) (hstack : g.stack = As.reverse ++ .ref b :: rest) (hW : 2 * g.monitorRoom + (rest.map fun v => v.category).sum ≤ 8) (hdg : decode cc g.pc = .ok (.invokevirtual index, 3)) (hf : cells + mc ≤ R.cells ∧ slots + ms ≤ R.slots) :
    va_Run p l e R s m args below meth c H locs cells slots mc ms g rest (Qc (Value.ref b :: As).toArray) free := by
  obtain ⟨⟨hrc, hrs, hfr, hlo, hws, hcw⟩, hcode, hini, hy, hlen, hl, hin, hse⟩ := cw
  have hK : Back l R p e below s args y 3 8 (PreOf R mc ms Pc) (PostOf Qc mc ms free) := va_backW (hh := hh) (bytes := bytes) (maxL := maxL) (ret := ret) hM hp.1 hrc hrs hfr hlo hws hcw (fun a' U hW => word_at hW (Or.inl (by first | rfl | simp [Cond.onTables, Cond.keeps, Cond.steady])) hini)
  obtain ⟨hx, hb, hml, ho, -⟩ := S
  obtain ⟨-, ⟨cellB, hcB, hoB, hclB⟩, hPc⟩ := hp
  intro T hT X
  obtain ⟨v, vm₁, ⟨U', l2, c2, s2⟩, hW₁, X', ⟨g', mk, t, L, e1, e2, hq, h1, hL, h2, h3⟩, st⟩ := vx_callVW X hx (C := C) (hh := hh) (bytes := bytes) (maxL := maxL) (ret := ret) ho hl hin hse hcode hy hK (by rw [hT]; exact hcB) hoB hclB hg (hsize.trans hml.symm) (argsL := As) (rest := rest) (fun sig h => hn.trans (hlen sig h)) hstack hW (by rw [hb]; exact hdg)
    (fun vm₁ hW₁ => ⟨hf.1, hf.2, hPc (T.setVm vm₁) hT hW₁⟩)
  dsimp only [Pt.U, Pt.locs, Pt.cells, Pt.slots] at X' e1 e2 h1 h2 h3 st
  subst h1; subst h2; subst h3
  exact ⟨v, (T.setVm vm₁).calling g' mk (Value.ref b :: As).toArray, t, U', L, hT, X', hL, e1, e2, hq, st⟩
section
variable {y : MethodName} {bytes cc : ByteArray} {maxL nL mc ms n index : Nat} {ret : Option FieldType} {ws : List Cond} {rm : Room} {Pc : Array Value → State → Prop} {Qc : Array Value → State → Outcome → State → Prop} {XC : String → State → State → Prop} {free : Addr → Prop} {Ts : List Cond} {own C : String} {b : Addr} {As rest : List Value} {g : JFrame}
theorem vx_runVX {hh : List (Nat × Nat × Nat × Nat)} (S : CallFix p m c cc nL s args Ts own) (hM : vx_Met l y ws rm Pc Qc XC mc ms free) (cw : vx_CVW R s args own C index y bytes maxL ret hh ws rm mc ms n) (hp : PreV s H C b Pc As)
    (hg : g.method = m) (hn : As.length = n) (hsize : g.locals.size = nL) (hstack : g.stack = As.reverse ++ .ref b :: rest) (hW : 2 * g.monitorRoom + (rest.map fun v => v.category).sum ≤ 8) (hdg : decode cc g.pc = .ok (.invokevirtual index, 3)) (hf : cells + mc ≤ R.cells ∧ slots + ms ≤ R.slots) :
    vx_Run p l e R s m args below meth c H locs cells slots mc ms g rest (Qc (Value.ref b :: As).toArray) XC free := by
  obtain ⟨⟨hrc, hrs, hfr, hlo, hws, hcw⟩, hcode, hini, hy, hlen, hl, hin, hse⟩ := cw
  have hK : vx_Back l R p e below s args y 3 8 (PreOf R mc ms Pc) (PostOf Qc mc ms free) (vx_Post XC mc ms free) := vx_backW (hh := hh) (bytes := bytes) (maxL := maxL) (ret := ret) hM hp.1 hrc hrs hfr hlo hws hcw (fun a' U hW => word_at hW (Or.inl (by first | rfl | simp [Cond.onTables, Cond.keeps, Cond.steady])) hini)
  obtain ⟨hx, hb, hml, ho, -⟩ := S
  obtain ⟨-, ⟨cellB, hcB, hoB, hclB⟩, hPc⟩ := hp
  intro T hT X
  rcases vx_callVX X hx (C := C) (hh := hh) (bytes := bytes) (maxL := maxL) (ret := ret) ho hl hin hse hcode hy hK (by rw [hT]; exact hcB) hoB hclB hg (hsize.trans hml.symm) (argsL := As) (rest := rest) (fun sig h => hn.trans (hlen sig h)) hstack hW (by rw [hb]; exact hdg)
    (fun vm₁ hW₁ => ⟨hf.1, hf.2, hPc (T.setVm vm₁) hT hW₁⟩) with ⟨v, vm₁, ⟨U', l2, c2, s2⟩, hW₁, X', ⟨g', mk, t, L, e1, e2, hq, h1, hL, h2, h3⟩, st⟩ | ⟨q, vm₁, ⟨U', l2, c2, s2⟩, hW₁, X', ⟨g', mk, t, L, E, ce, e1, e2, hq, hce, hcv, hcl, h1, hL, h2, h3⟩, st⟩
  · dsimp only [Pt.U, Pt.locs, Pt.cells, Pt.slots] at X' e1 e2 h1 h2 h3 st
    subst h1; subst h2; subst h3
    exact Or.inl ⟨v, (T.setVm vm₁).calling g' mk (Value.ref b :: As).toArray, t, U', L, hT, X', hL, e1, e2, hq, st⟩
  · dsimp only [Pt.U, Pt.locs, Pt.cells, Pt.slots] at X' e1 e2 h1 h2 h3 st hcl
    subst h1; subst h2; subst h3
    exact Or.inr ⟨q, (T.setVm vm₁).calling g' mk (Value.ref b :: As).toArray, t, U', L, E, ce, hT, X', hL, e1, e2, hq, hce, hcv, vx_cls hW₁ hcl, st⟩
theorem vx_runSX {hh : List (Nat × Nat × Nat × Nat)} (S : CallFix p m c cc nL s args Ts own) (hM : vx_Met l y ws rm Pc Qc XC mc ms free) (cw : vx_CSW R s args own index y bytes maxL ret hh ws rm mc ms n) (hp : PreS s H Pc As)
    (hg : g.method = m) (hn : As.length = n) (hsize : g.locals.size = nL) (hstack : g.stack = As.reverse ++ rest) (hW : 2 * g.monitorRoom + (rest.map fun v => v.category).sum ≤ 8) (hdg : decode cc g.pc = .ok (.invokestatic index, 3)) (hf : cells + mc ≤ R.cells ∧ slots + ms ≤ R.slots) :
    vx_Run p l e R s m args below meth c H locs cells slots mc ms g rest (Qc As.toArray) XC free := by
  obtain ⟨⟨hrc, hrs, hfr, hlo, hws, hcw⟩, hcode, hini, hy, hlen, hl, hstt⟩ := cw
  have hK : vx_Back l R p e below s args y 3 8 (PreOf R mc ms Pc) (PostOf Qc mc ms free) (vx_Post XC mc ms free) := vx_backW (hh := hh) (bytes := bytes) (maxL := maxL) (ret := ret) hM hp.1 hrc hrs hfr hlo hws hcw (fun a' U hW => word_at hW (Or.inl (by first | rfl | simp [Cond.onTables, Cond.keeps, Cond.steady])) hini)
  obtain ⟨hx, hb, hml, ho, -⟩ := S
  intro T hT X
  rcases vx_callSX X hx (hh := hh) (bytes := bytes) (maxL := maxL) (ret := ret) ho hl hstt hini hcode hy hK hg (hsize.trans hml.symm) (argsL := As) (rest := rest) (fun sig h => hn.trans (hlen sig h)) hstack hW (by rw [hb]; exact hdg)
    (fun vm₁ hW₁ => ⟨hf.1, hf.2, hp.2 (T.setVm vm₁) hT hW₁⟩) with ⟨v, vm₁, ⟨U', l2, c2, s2⟩, hW₁, X', ⟨g', mk, t, L, e1, e2, hq, h1, hL, h2, h3⟩, st⟩ | ⟨q, vm₁, ⟨U', l2, c2, s2⟩, hW₁, X', ⟨g', mk, t, L, E, ce, e1, e2, hq, hce, hcv, hcl, h1, hL, h2, h3⟩, st⟩
  · dsimp only [Pt.U, Pt.locs, Pt.cells, Pt.slots] at X' e1 e2 h1 h2 h3 st
    subst h1; subst h2; subst h3
    exact Or.inl ⟨v, (T.setVm vm₁).calling g' mk As.toArray, t, U', L, hT, X', hL, e1, e2, hq, st⟩
  · dsimp only [Pt.U, Pt.locs, Pt.cells, Pt.slots] at X' e1 e2 h1 h2 h3 st hcl
    subst h1; subst h2; subst h3
    exact Or.inr ⟨q, (T.setVm vm₁).calling g' mk As.toArray, t, U', L, E, ce, hT, X', hL, e1, e2, hq, hce, hcv, vx_cls hW₁ hcl, st⟩
end
end VXH
theorem vx_ofWH {l : Launch} {y : MethodName} {ws ws' : List Cond} {rm : Room} {Pc : Array Value → State → Prop} {Qc : Array Value → State → Outcome → State → Prop} {XC : String → State → State → Prop} {mc ms : Nat} {free : Addr → Prop} {cc : ByteArray} {maxL : Nat} {ret : Option FieldType} {hh : List (Nat × Nat × Nat × Nat)}
    (hy : plainName y.cls = true) (hw : ws = Cond.codeWith y cc maxL ret hh :: ws')
    (body : ∀ p e s m args below meth c s₁, BodyLoose p l y (headSpec ws rm) cc maxL ret e s m args below meth c s₁ → c.maxLocals = maxL → Pc args s →
      W p l e (headSpec ws rm).room s m args below meth c s.heap [] 0 0 (vx_MQ below Qc XC args s mc ms free) (entryFrame m args maxL)) : vx_Met l y ws rm Pc Qc XC mc ms free := by
  refine MetFree.of_bodyS (code := cc) (maxLocals := maxL) (ret := ret) hy ?_ ?_
  · intro args s m h hn
    obtain ⟨m9, meth, c, hn9, h1, h2, h3, h4, -, h5, h6, -⟩ := Cond.codeWith_spec (atoms_spec (ws := ws) h _ (by rw [hw]; exact List.mem_cons_self))
    cases hn.symm.trans hn9
    exact ⟨meth, c, h1, h2, h3, h4, h5, h6⟩
  · intro p e s m args below meth c s₁ B hml hP _
    have hh0 : s₁.heap = s.heap := by rw [B.state]; rfl
    obtain ⟨t, a1, o, b1, b2, b3⟩ := body p e s m args below meth c s₁ B hml hP s₁ hh0 (Stand.of_body B)
    exact ⟨t, o, a1, b1, b2, b3⟩
/-! ===== END ===== -/

/-! ===== BEGIN printed: names, fields, word lists, decode rows ===== -/
def RX0 : String := "ShareTickets$History"
def TX0 : u_T := fun k => match k with
  | 0 => ("ShareTickets$History", "size", "I", false)
  | 1 => ("ShareTickets$History", "newest", "I", false)
  | _ => ("ShareTickets$History", "past", "[LShareTickets$Place;", true)
def tyX0 : Nat → FieldType := fun k => match k with
  | 0 => .int
  | 1 => .int
  | _ => .array (.object "ShareTickets$Place")
abbrev wsX00 : List Cond := u_ws RX0 TX0 3
theorem nmX0 : ∀ a, a < 3 → ∀ b, b < 3 → a ≠ b → (TX0 a).2.1 ≠ (TX0 b).2.1 := by decide +kernel
theorem tyX0_ok : ∀ k, k < 3 → parseFieldDescriptor (TX0 k).2.2.1 = some (tyX0 k) := by decide +kernel
abbrev cX0_init : ByteArray := prog_2_method_1_code
def yX0_init : MethodName := ⟨RX0, "<init>", "()V"⟩
abbrev cX0_keep : ByteArray := prog_2_method_2_code
def yX0_keep : MethodName := ⟨RX0, "keep", "(LShareTickets$Place;)V"⟩
abbrev cX0_restore : ByteArray := prog_2_method_3_code
def yX0_restore : MethodName := ⟨RX0, "restore", "(LShareTickets$Place;)V"⟩
def RX1 : String := "ShareTickets$Jobs"
def TX1 : u_T := fun k => match k with
  | 0 => ("ShareTickets$Jobs", "size", "I", false)
  | 1 => ("ShareTickets$Jobs", "leaf", "[I", true)
  | 2 => ("ShareTickets$Jobs", "length", "[I", true)
  | 3 => ("ShareTickets$Jobs", "work", "[I", true)
  | 4 => ("ShareTickets$Jobs", "state", "[I", true)
  | 5 => ("ShareTickets$Jobs", "machine", "[I", true)
  | 6 => ("ShareTickets$Jobs", "ended", "[I", true)
  | _ => ("ShareTickets$Jobs", "waited", "[I", true)
def tyX1 : Nat → FieldType := fun k => match k with
  | 0 => .int
  | 1 => .array .int
  | 2 => .array .int
  | 3 => .array .int
  | 4 => .array .int
  | 5 => .array .int
  | 6 => .array .int
  | _ => .array .int
abbrev wsX10 : List Cond := u_ws RX1 TX1 8
theorem nmX1 : ∀ a, a < 8 → ∀ b, b < 8 → a ≠ b → (TX1 a).2.1 ≠ (TX1 b).2.1 := by decide +kernel
theorem tyX1_ok : ∀ k, k < 8 → parseFieldDescriptor (TX1 k).2.2.1 = some (tyX1 k) := by decide +kernel
abbrev cX1_init : ByteArray := prog_3_method_1_code
def yX1_init : MethodName := ⟨RX1, "<init>", "()V"⟩
abbrev cX1_clear : ByteArray := prog_3_method_2_code
def yX1_clear : MethodName := ⟨RX1, "clear", "()V"⟩
abbrev cX1_copyFrom : ByteArray := prog_3_method_3_code
def yX1_copyFrom : MethodName := ⟨RX1, "copyFrom", "(LShareTickets$Jobs;)V"⟩
abbrev cX1_has : ByteArray := prog_3_method_4_code
def yX1_has : MethodName := ⟨RX1, "has", "(I)Z"⟩
abbrev cX1_isFull : ByteArray := prog_3_method_5_code
def yX1_isFull : MethodName := ⟨RX1, "isFull", "()Z"⟩
abbrev cX1_isOpen : ByteArray := prog_3_method_6_code
def yX1_isOpen : MethodName := ⟨RX1, "isOpen", "(I)Z"⟩
abbrev cX1_runsOn : ByteArray := prog_3_method_7_code
def yX1_runsOn : MethodName := ⟨RX1, "runsOn", "(II)Z"⟩
abbrev cX1_anyOf : ByteArray := prog_3_method_8_code
def yX1_anyOf : MethodName := ⟨RX1, "anyOf", "(I)Z"⟩
abbrev cX1_inState : ByteArray := prog_3_method_9_code
def yX1_inState : MethodName := ⟨RX1, "inState", "(I)I"⟩
abbrev cX1_add : ByteArray := prog_3_method_10_code
def yX1_add : MethodName := ⟨RX1, "add", "(II)V"⟩
abbrev cX1_start : ByteArray := prog_3_method_11_code
def yX1_start : MethodName := ⟨RX1, "start", "(II)V"⟩
abbrev cX1_stop : ByteArray := prog_3_method_12_code
def yX1_stop : MethodName := ⟨RX1, "stop", "(II)V"⟩
abbrev cX1_end : ByteArray := prog_3_method_13_code
def yX1_end : MethodName := ⟨RX1, "end", "(III)V"⟩
def RX2 : String := "ShareTickets$Loans"
def TX2 : u_T := fun k => match k with
  | 0 => ("ShareTickets$Loans", "size", "I", false)
  | 1 => ("ShareTickets$Loans", "from", "[I", true)
  | 2 => ("ShareTickets$Loans", "to", "[I", true)
  | 3 => ("ShareTickets$Loans", "tickets", "[I", true)
  | 4 => ("ShareTickets$Loans", "begin", "[I", true)
  | _ => ("ShareTickets$Loans", "ticks", "[I", true)
def tyX2 : Nat → FieldType := fun k => match k with
  | 0 => .int
  | 1 => .array .int
  | 2 => .array .int
  | 3 => .array .int
  | 4 => .array .int
  | _ => .array .int
abbrev wsX20 : List Cond := u_ws RX2 TX2 6
theorem nmX2 : ∀ a, a < 6 → ∀ b, b < 6 → a ≠ b → (TX2 a).2.1 ≠ (TX2 b).2.1 := by decide +kernel
theorem tyX2_ok : ∀ k, k < 6 → parseFieldDescriptor (TX2 k).2.2.1 = some (tyX2 k) := by decide +kernel
abbrev cX2_init : ByteArray := prog_4_method_1_code
def yX2_init : MethodName := ⟨RX2, "<init>", "()V"⟩
abbrev cX2_clear : ByteArray := prog_4_method_2_code
def yX2_clear : MethodName := ⟨RX2, "clear", "()V"⟩
abbrev cX2_copyFrom : ByteArray := prog_4_method_3_code
def yX2_copyFrom : MethodName := ⟨RX2, "copyFrom", "(LShareTickets$Loans;)V"⟩
abbrev cX2_has : ByteArray := prog_4_method_4_code
def yX2_has : MethodName := ⟨RX2, "has", "(I)Z"⟩
abbrev cX2_isFull : ByteArray := prog_4_method_5_code
def yX2_isFull : MethodName := ⟨RX2, "isFull", "()Z"⟩
abbrev cX2_anyOf : ByteArray := prog_4_method_6_code
def yX2_anyOf : MethodName := ⟨RX2, "anyOf", "(I)Z"⟩
abbrev cX2_add : ByteArray := prog_4_method_7_code
def yX2_add : MethodName := ⟨RX2, "add", "(IIIII)V"⟩
abbrev cX2_dueAt : ByteArray := prog_4_method_8_code
def yX2_dueAt : MethodName := ⟨RX2, "dueAt", "(I)I"⟩
abbrev cX2_goneAt : ByteArray := prog_4_method_9_code
def yX2_goneAt : MethodName := ⟨RX2, "goneAt", "(I)I"⟩
abbrev cX2_isLent : ByteArray := prog_4_method_10_code
def yX2_isLent : MethodName := ⟨RX2, "isLent", "(II)Z"⟩
abbrev cX2_dropOver : ByteArray := prog_4_method_11_code
def yX2_dropOver : MethodName := ⟨RX2, "dropOver", "(I)V"⟩
abbrev cX2_balanceOf : ByteArray := prog_4_method_12_code
def yX2_balanceOf : MethodName := ⟨RX2, "balanceOf", "(II)I"⟩
def RX3 : String := "ShareTickets$Machines"
def TX3 : u_T := fun k => match k with
  | 0 => ("ShareTickets$Machines", "size", "I", false)
  | 1 => ("ShareTickets$Machines", "slots", "[I", true)
  | _ => ("ShareTickets$Machines", "up", "[I", true)
def tyX3 : Nat → FieldType := fun k => match k with
  | 0 => .int
  | 1 => .array .int
  | _ => .array .int
abbrev wsX30 : List Cond := u_ws RX3 TX3 3
theorem nmX3 : ∀ a, a < 3 → ∀ b, b < 3 → a ≠ b → (TX3 a).2.1 ≠ (TX3 b).2.1 := by decide +kernel
theorem tyX3_ok : ∀ k, k < 3 → parseFieldDescriptor (TX3 k).2.2.1 = some (tyX3 k) := by decide +kernel
abbrev cX3_init : ByteArray := prog_5_method_1_code
def yX3_init : MethodName := ⟨RX3, "<init>", "()V"⟩
abbrev cX3_clear : ByteArray := prog_5_method_2_code
def yX3_clear : MethodName := ⟨RX3, "clear", "()V"⟩
abbrev cX3_copyFrom : ByteArray := prog_5_method_3_code
def yX3_copyFrom : MethodName := ⟨RX3, "copyFrom", "(LShareTickets$Machines;)V"⟩
abbrev cX3_has : ByteArray := prog_5_method_4_code
def yX3_has : MethodName := ⟨RX3, "has", "(I)Z"⟩
abbrev cX3_isFull : ByteArray := prog_5_method_5_code
def yX3_isFull : MethodName := ⟨RX3, "isFull", "()Z"⟩
abbrev cX3_isUp : ByteArray := prog_5_method_6_code
def yX3_isUp : MethodName := ⟨RX3, "isUp", "(I)Z"⟩
abbrev cX3_add : ByteArray := prog_5_method_7_code
def yX3_add : MethodName := ⟨RX3, "add", "(I)V"⟩
abbrev cX3_turn : ByteArray := prog_5_method_8_code
def yX3_turn : MethodName := ⟨RX3, "turn", "(IZ)V"⟩
def RX4 : String := "ShareTickets$Note"
def TX4 : u_T := fun k => match k with
  | 0 => ("ShareTickets$Note", "length", "I", false)
  | _ => ("ShareTickets$Note", "bytes", "[B", true)
def tyX4 : Nat → FieldType := fun k => match k with
  | 0 => .int
  | _ => .array .byte
abbrev wsX40 : List Cond := u_ws RX4 TX4 2
theorem nmX4 : ∀ a, a < 2 → ∀ b, b < 2 → a ≠ b → (TX4 a).2.1 ≠ (TX4 b).2.1 := by decide +kernel
theorem tyX4_ok : ∀ k, k < 2 → parseFieldDescriptor (TX4 k).2.2.1 = some (tyX4 k) := by decide +kernel
abbrev cX4_init : ByteArray := prog_6_method_1_code
def yX4_init : MethodName := ⟨RX4, "<init>", "()V"⟩
abbrev cX4_clear : ByteArray := prog_6_method_2_code
def yX4_clear : MethodName := ⟨RX4, "clear", "()V"⟩
abbrev cX4_put : ByteArray := prog_6_method_3_code
def yX4_put : MethodName := ⟨RX4, "put", "(I)V"⟩
abbrev cX4_putMachine : ByteArray := prog_6_method_4_code
def yX4_putMachine : MethodName := ⟨RX4, "putMachine", "(LShareTickets$Place;I)V"⟩
abbrev cX4_putNumber : ByteArray := prog_6_method_5_code
def yX4_putNumber : MethodName := ⟨RX4, "putNumber", "(I)V"⟩
def RX5 : String := "ShareTickets$Place"
def TX5 : u_T := fun k => match k with
  | 0 => ("ShareTickets$Place", "tree", "LShareTickets$Tree;", true)
  | 1 => ("ShareTickets$Place", "loans", "LShareTickets$Loans;", true)
  | 2 => ("ShareTickets$Place", "machines", "LShareTickets$Machines;", true)
  | 3 => ("ShareTickets$Place", "jobs", "LShareTickets$Jobs;", true)
  | 4 => ("ShareTickets$Place", "scale", "LShareTickets$Scale;", true)
  | 5 => ("ShareTickets$Place", "settings", "[I", true)
  | 6 => ("ShareTickets$Place", "time", "I", false)
  | 7 => ("ShareTickets$Place", "interruptions", "I", false)
  | _ => ("ShareTickets$Place", "lostWork", "I", false)
def tyX5 : Nat → FieldType := fun k => match k with
  | 0 => .object "ShareTickets$Tree"
  | 1 => .object "ShareTickets$Loans"
  | 2 => .object "ShareTickets$Machines"
  | 3 => .object "ShareTickets$Jobs"
  | 4 => .object "ShareTickets$Scale"
  | 5 => .array .int
  | 6 => .int
  | 7 => .int
  | _ => .int
abbrev wsX50 : List Cond := u_ws RX5 TX5 9
theorem nmX5 : ∀ a, a < 9 → ∀ b, b < 9 → a ≠ b → (TX5 a).2.1 ≠ (TX5 b).2.1 := by decide +kernel
theorem tyX5_ok : ∀ k, k < 9 → parseFieldDescriptor (TX5 k).2.2.1 = some (tyX5 k) := by decide +kernel
abbrev cX5_init : ByteArray := prog_7_method_1_code
def yX5_init : MethodName := ⟨RX5, "<init>", "()V"⟩
abbrev cX5_clear : ByteArray := prog_7_method_2_code
def yX5_clear : MethodName := ⟨RX5, "clear", "()V"⟩
abbrev cX5_copyFrom : ByteArray := prog_7_method_3_code
def yX5_copyFrom : MethodName := ⟨RX5, "copyFrom", "(LShareTickets$Place;)V"⟩
abbrev cX5_settle : ByteArray := prog_7_method_4_code
def yX5_settle : MethodName := ⟨RX5, "settle", "()V"⟩
abbrev cX5_fillSlots : ByteArray := prog_7_method_5_code
def yX5_fillSlots : MethodName := ⟨RX5, "fillSlots", "()V"⟩
abbrev cX5_freeMachine : ByteArray := prog_7_method_6_code
def yX5_freeMachine : MethodName := ⟨RX5, "freeMachine", "()I"⟩
abbrev cX5_freeSlots : ByteArray := prog_7_method_7_code
def yX5_freeSlots : MethodName := ⟨RX5, "freeSlots", "()I"⟩
abbrev cX5_bestWaiting : ByteArray := prog_7_method_8_code
def yX5_bestWaiting : MethodName := ⟨RX5, "bestWaiting", "()I"⟩
abbrev cX5_leastRunning : ByteArray := prog_7_method_9_code
def yX5_leastRunning : MethodName := ⟨RX5, "leastRunning", "(I)I"⟩
abbrev cX5_startJob : ByteArray := prog_7_method_10_code
def yX5_startJob : MethodName := ⟨RX5, "startJob", "(II)V"⟩
abbrev cX5_interruptJob : ByteArray := prog_7_method_11_code
def yX5_interruptJob : MethodName := ⟨RX5, "interruptJob", "(I)V"⟩
abbrev cX5_keptWork : ByteArray := prog_7_method_12_code
def yX5_keptWork : MethodName := ⟨RX5, "keptWork", "(I)I"⟩
abbrev cX5_preemptJobs : ByteArray := prog_7_method_13_code
def yX5_preemptJobs : MethodName := ⟨RX5, "preemptJobs", "()V"⟩
abbrev cX5_outweighs : ByteArray := prog_7_method_14_code
def yX5_outweighs : MethodName := ⟨RX5, "outweighs", "(II)Z"⟩
abbrev cX5_switchMachine : ByteArray := prog_7_method_15_code
def yX5_switchMachine : MethodName := ⟨RX5, "switchMachine", "(IZ)V"⟩
abbrev cX5_passTick : ByteArray := prog_7_method_16_code
def yX5_passTick : MethodName := ⟨RX5, "passTick", "()V"⟩
abbrev cX5_workOn : ByteArray := prog_7_method_17_code
def yX5_workOn : MethodName := ⟨RX5, "workOn", "()V"⟩
abbrev cX5_leafRanked : ByteArray := prog_7_method_18_code
def yX5_leafRanked : MethodName := ⟨RX5, "leafRanked", "(I)I"⟩
abbrev cX5_leavesBefore : ByteArray := prog_7_method_19_code
def yX5_leavesBefore : MethodName := ⟨RX5, "leavesBefore", "(I)I"⟩
def RX6 : String := "ShareTickets$Scale"
def TX6 : u_T := fun k => match k with
  | 0 => ("ShareTickets$Scale", "load", "[I", true)
  | 1 => ("ShareTickets$Scale", "waiting", "[I", true)
  | 2 => ("ShareTickets$Scale", "tickets", "[I", true)
  | 3 => ("ShareTickets$Scale", "busy", "[I", true)
  | 4 => ("ShareTickets$Scale", "nextWorth", "[J", true)
  | _ => ("ShareTickets$Scale", "nowWorth", "[J", true)
def tyX6 : Nat → FieldType := fun k => match k with
  | 0 => .array .int
  | 1 => .array .int
  | 2 => .array .int
  | 3 => .array .int
  | 4 => .array .long
  | _ => .array .long
abbrev wsX60 : List Cond := u_ws RX6 TX6 6
theorem nmX6 : ∀ a, a < 6 → ∀ b, b < 6 → a ≠ b → (TX6 a).2.1 ≠ (TX6 b).2.1 := by decide +kernel
theorem tyX6_ok : ∀ k, k < 6 → parseFieldDescriptor (TX6 k).2.2.1 = some (tyX6 k) := by decide +kernel
abbrev cX6_init : ByteArray := prog_8_method_1_code
def yX6_init : MethodName := ⟨RX6, "<init>", "()V"⟩
abbrev cX6_survey : ByteArray := prog_8_method_2_code
def yX6_survey : MethodName := ⟨RX6, "survey", "(LShareTickets$Place;)V"⟩
abbrev cX6_countJobs : ByteArray := prog_8_method_3_code
def yX6_countJobs : MethodName := ⟨RX6, "countJobs", "(LShareTickets$Place;)V"⟩
abbrev cX6_dealTickets : ByteArray := prog_8_method_4_code
def yX6_dealTickets : MethodName := ⟨RX6, "dealTickets", "(LShareTickets$Place;)V"⟩
abbrev cX6_weigh : ByteArray := prog_8_method_5_code
def yX6_weigh : MethodName := ⟨RX6, "weigh", "(LShareTickets$Tree;I)V"⟩
abbrev cX6_shift : ByteArray := prog_8_method_6_code
def yX6_shift : MethodName := ⟨RX6, "shift", "(LShareTickets$Place;III)V"⟩
abbrev cX6_nextWorthOf : ByteArray := prog_8_method_7_code
def yX6_nextWorthOf : MethodName := ⟨RX6, "nextWorthOf", "(I)J"⟩
abbrev cX6_nowWorthOf : ByteArray := prog_8_method_8_code
def yX6_nowWorthOf : MethodName := ⟨RX6, "nowWorthOf", "(I)J"⟩
def RX7 : String := "ShareTickets$Text"
def TX7 : u_T := fun k => match k with
  | 0 => ("ShareTickets$Text", "filled", "I", false)
  | 1 => ("ShareTickets$Text", "error", "I", false)
  | 2 => ("ShareTickets$Text", "errorAt", "I", false)
  | 3 => ("ShareTickets$Text", "bytes", "[B", true)
  | 4 => ("ShareTickets$Text", "length", "I", false)
  | 5 => ("ShareTickets$Text", "at", "I", false)
  | _ => ("ShareTickets$Text", "numberAt", "I", false)
def tyX7 : Nat → FieldType := fun k => match k with
  | 0 => .int
  | 1 => .int
  | 2 => .int
  | 3 => .array .byte
  | 4 => .int
  | 5 => .int
  | _ => .int
abbrev wsX70 : List Cond := u_ws RX7 TX7 7
theorem nmX7 : ∀ a, a < 7 → ∀ b, b < 7 → a ≠ b → (TX7 a).2.1 ≠ (TX7 b).2.1 := by decide +kernel
theorem tyX7_ok : ∀ k, k < 7 → parseFieldDescriptor (TX7 k).2.2.1 = some (tyX7 k) := by decide +kernel
abbrev cX7_init : ByteArray := prog_9_method_1_code
def yX7_init : MethodName := ⟨RX7, "<init>", "()V"⟩
abbrev cX7_put : ByteArray := prog_9_method_2_code
def yX7_put : MethodName := ⟨RX7, "put", "(I)V"⟩
abbrev cX7_read : ByteArray := prog_9_method_3_code
def yX7_read : MethodName := ⟨RX7, "read", "(ILShareTickets$Place;)V"⟩
abbrev cX7_isOver : ByteArray := prog_9_method_4_code
def yX7_isOver : MethodName := ⟨RX7, "isOver", "()Z"⟩
abbrev cX7_readStatement : ByteArray := prog_9_method_5_code
def yX7_readStatement : MethodName := ⟨RX7, "readStatement", "(LShareTickets$Place;)V"⟩
abbrev cX7_readUser : ByteArray := prog_9_method_6_code
def yX7_readUser : MethodName := ⟨RX7, "readUser", "(LShareTickets$Place;I)V"⟩
abbrev cX7_readMachine : ByteArray := prog_9_method_7_code
def yX7_readMachine : MethodName := ⟨RX7, "readMachine", "(LShareTickets$Place;I)V"⟩
abbrev cX7_readJob : ByteArray := prog_9_method_8_code
def yX7_readJob : MethodName := ⟨RX7, "readJob", "(LShareTickets$Place;I)V"⟩
abbrev cX7_readSetting : ByteArray := prog_9_method_9_code
def yX7_readSetting : MethodName := ⟨RX7, "readSetting", "(LShareTickets$Place;I)V"⟩
abbrev cX7_readNumber : ByteArray := prog_9_method_10_code
def yX7_readNumber : MethodName := ⟨RX7, "readNumber", "(II)I"⟩
abbrev cX7_readSemicolon : ByteArray := prog_9_method_11_code
def yX7_readSemicolon : MethodName := ⟨RX7, "readSemicolon", "()V"⟩
abbrev cX7_skipSpaces : ByteArray := prog_9_method_12_code
def yX7_skipSpaces : MethodName := ⟨RX7, "skipSpaces", "()V"⟩
abbrev cX7_skipWord : ByteArray := prog_9_method_13_code
def yX7_skipWord : MethodName := ⟨RX7, "skipWord", "()V"⟩
abbrev cX7_isWord : ByteArray := prog_9_method_14_code
def yX7_isWord : MethodName := ⟨RX7, "isWord", "(Ljava/lang/String;I)Z"⟩
abbrev cX7_isDigit : ByteArray := prog_9_method_15_code
def yX7_isDigit : MethodName := ⟨RX7, "isDigit", "(I)Z"⟩
abbrev cX7_byteAt : ByteArray := prog_9_method_16_code
def yX7_byteAt : MethodName := ⟨RX7, "byteAt", "(I)I"⟩
abbrev cX7_fail : ByteArray := prog_9_method_17_code
def yX7_fail : MethodName := ⟨RX7, "fail", "(II)V"⟩
def RX8 : String := "ShareTickets$Tree"
def TX8 : u_T := fun k => match k with
  | 0 => ("ShareTickets$Tree", "size", "I", false)
  | 1 => ("ShareTickets$Tree", "parent", "[I", true)
  | 2 => ("ShareTickets$Tree", "shares", "[I", true)
  | 3 => ("ShareTickets$Tree", "use", "[I", true)
  | _ => ("ShareTickets$Tree", "base", "[I", true)
def tyX8 : Nat → FieldType := fun k => match k with
  | 0 => .int
  | 1 => .array .int
  | 2 => .array .int
  | 3 => .array .int
  | _ => .array .int
abbrev wsX80 : List Cond := u_ws RX8 TX8 5
theorem nmX8 : ∀ a, a < 5 → ∀ b, b < 5 → a ≠ b → (TX8 a).2.1 ≠ (TX8 b).2.1 := by decide +kernel
theorem tyX8_ok : ∀ k, k < 5 → parseFieldDescriptor (TX8 k).2.2.1 = some (tyX8 k) := by decide +kernel
abbrev cX8_init : ByteArray := prog_10_method_1_code
def yX8_init : MethodName := ⟨RX8, "<init>", "()V"⟩
abbrev cX8_clear : ByteArray := prog_10_method_2_code
def yX8_clear : MethodName := ⟨RX8, "clear", "()V"⟩
abbrev cX8_copyFrom : ByteArray := prog_10_method_3_code
def yX8_copyFrom : MethodName := ⟨RX8, "copyFrom", "(LShareTickets$Tree;)V"⟩
abbrev cX8_has : ByteArray := prog_10_method_4_code
def yX8_has : MethodName := ⟨RX8, "has", "(I)Z"⟩
abbrev cX8_isFull : ByteArray := prog_10_method_5_code
def yX8_isFull : MethodName := ⟨RX8, "isFull", "()Z"⟩
abbrev cX8_isLeaf : ByteArray := prog_10_method_6_code
def yX8_isLeaf : MethodName := ⟨RX8, "isLeaf", "(I)Z"⟩
abbrev cX8_childrenOf : ByteArray := prog_10_method_7_code
def yX8_childrenOf : MethodName := ⟨RX8, "childrenOf", "(I)I"⟩
abbrev cX8_add : ByteArray := prog_10_method_8_code
def yX8_add : MethodName := ⟨RX8, "add", "(II)V"⟩
abbrev cX8_changeShares : ByteArray := prog_10_method_9_code
def yX8_changeShares : MethodName := ⟨RX8, "changeShares", "(II)V"⟩
abbrev cX8_dealBase : ByteArray := prog_10_method_10_code
def yX8_dealBase : MethodName := ⟨RX8, "dealBase", "()V"⟩
abbrev cX8_sharesUnder : ByteArray := prog_10_method_11_code
def yX8_sharesUnder : MethodName := ⟨RX8, "sharesUnder", "(I)I"⟩
abbrev cX8_sumBelow : ByteArray := prog_10_method_12_code
def yX8_sumBelow : MethodName := ⟨RX8, "sumBelow", "(I[I)I"⟩
abbrev cX8_isUnder : ByteArray := prog_10_method_13_code
def yX8_isUnder : MethodName := ⟨RX8, "isUnder", "(II)Z"⟩
abbrev cX8_addUse : ByteArray := prog_10_method_14_code
def yX8_addUse : MethodName := ⟨RX8, "addUse", "(I)V"⟩
abbrev cX8_halveUses : ByteArray := prog_10_method_15_code
def yX8_halveUses : MethodName := ⟨RX8, "halveUses", "()V"⟩
abbrev cX8_need : ByteArray := prog_10_method_16_code
def yX8_need : MethodName := ⟨RX8, "need", "(II)I"⟩
def RX9 : String := "ShareTickets"
def TX9 : u_T := fun k => match k with
  | 0 => ("ShareTickets", "present", "LShareTickets$Place;", true)
  | 1 => ("ShareTickets", "thought", "LShareTickets$Place;", true)
  | 2 => ("ShareTickets", "history", "LShareTickets$History;", true)
  | 3 => ("ShareTickets", "text", "LShareTickets$Text;", true)
  | _ => ("ShareTickets", "written", "LShareTickets$Note;", true)
def tyX9 : Nat → FieldType := fun k => match k with
  | 0 => .object "ShareTickets$Place"
  | 1 => .object "ShareTickets$Place"
  | 2 => .object "ShareTickets$History"
  | 3 => .object "ShareTickets$Text"
  | _ => .object "ShareTickets$Note"
abbrev wsX90 : List Cond := u_ws RX9 TX9 5
theorem nmX9 : ∀ a, a < 5 → ∀ b, b < 5 → a ≠ b → (TX9 a).2.1 ≠ (TX9 b).2.1 := by decide +kernel
theorem tyX9_ok : ∀ k, k < 5 → parseFieldDescriptor (TX9 k).2.2.1 = some (tyX9 k) := by decide +kernel
abbrev cX9_init : ByteArray := prog_1_method_1_code
def yX9_init : MethodName := ⟨RX9, "<init>", "()V"⟩
abbrev cX9_append : ByteArray := prog_1_method_2_code
def yX9_append : MethodName := ⟨RX9, "append", "(IIIII)I"⟩
abbrev cX9_load : ByteArray := prog_1_method_3_code
def yX9_load : MethodName := ⟨RX9, "load", "(I)I"⟩
abbrev cX9_errorPosition : ByteArray := prog_1_method_4_code
def yX9_errorPosition : MethodName := ⟨RX9, "errorPosition", "()I"⟩
abbrev cX9_count : ByteArray := prog_1_method_5_code
def yX9_count : MethodName := ⟨RX9, "count", "(I)I"⟩
abbrev cX9_user : ByteArray := prog_1_method_6_code
def yX9_user : MethodName := ⟨RX9, "user", "(II)I"⟩
abbrev cX9_addUser : ByteArray := prog_1_method_7_code
def yX9_addUser : MethodName := ⟨RX9, "addUser", "(II)I"⟩
abbrev cX9_setShares : ByteArray := prog_1_method_8_code
def yX9_setShares : MethodName := ⟨RX9, "setShares", "(II)I"⟩
abbrev cX9_lend : ByteArray := prog_1_method_9_code
def yX9_lend : MethodName := ⟨RX9, "lend", "(IIII)I"⟩
abbrev cX9_loan : ByteArray := prog_1_method_10_code
def yX9_loan : MethodName := ⟨RX9, "loan", "(II)I"⟩
abbrev cX9_balance : ByteArray := prog_1_method_11_code
def yX9_balance : MethodName := ⟨RX9, "balance", "(I)I"⟩
abbrev cX9_ranked : ByteArray := prog_1_method_12_code
def yX9_ranked : MethodName := ⟨RX9, "ranked", "(I)I"⟩
abbrev cX9_worth : ByteArray := prog_1_method_13_code
def yX9_worth : MethodName := ⟨RX9, "worth", "(II)J"⟩
abbrev cX9_machine : ByteArray := prog_1_method_14_code
def yX9_machine : MethodName := ⟨RX9, "machine", "(II)I"⟩
abbrev cX9_job : ByteArray := prog_1_method_15_code
def yX9_job : MethodName := ⟨RX9, "job", "(II)I"⟩
abbrev cX9_first : ByteArray := prog_1_method_16_code
def yX9_first : MethodName := ⟨RX9, "first", "()I"⟩
abbrev cX9_submit : ByteArray := prog_1_method_17_code
def yX9_submit : MethodName := ⟨RX9, "submit", "(II)I"⟩
abbrev cX9_cancel : ByteArray := prog_1_method_18_code
def yX9_cancel : MethodName := ⟨RX9, "cancel", "(I)I"⟩
abbrev cX9_setUp : ByteArray := prog_1_method_19_code
def yX9_setUp : MethodName := ⟨RX9, "setUp", "(IZ)I"⟩
abbrev cX9_set : ByteArray := prog_1_method_20_code
def yX9_set : MethodName := ⟨RX9, "set", "(II)I"⟩
abbrev cX9_tick : ByteArray := prog_1_method_21_code
def yX9_tick : MethodName := ⟨RX9, "tick", "(I)I"⟩
abbrev cX9_finishedIn : ByteArray := prog_1_method_22_code
def yX9_finishedIn : MethodName := ⟨RX9, "finishedIn", "(I)I"⟩
abbrev cX9_ahead : ByteArray := prog_1_method_23_code
def yX9_ahead : MethodName := ⟨RX9, "ahead", "(II)I"⟩
abbrev cX9_drift : ByteArray := prog_1_method_24_code
def yX9_drift : MethodName := ⟨RX9, "drift", "()I"⟩
abbrev cX9_part : ByteArray := prog_1_method_25_code
def yX9_part : MethodName := ⟨RX9, "part", "(I)F"⟩
abbrev cX9_neediest : ByteArray := prog_1_method_26_code
def yX9_neediest : MethodName := ⟨RX9, "neediest", "()I"⟩
abbrev cX9_writeMachines : ByteArray := prog_1_method_27_code
def yX9_writeMachines : MethodName := ⟨RX9, "writeMachines", "()I"⟩
abbrev cX9_writtenByte : ByteArray := prog_1_method_28_code
def yX9_writtenByte : MethodName := ⟨RX9, "writtenByte", "(I)I"⟩
abbrev cX9_undo : ByteArray := prog_1_method_29_code
def yX9_undo : MethodName := ⟨RX9, "undo", "()I"⟩
abbrev cX9_needUser : ByteArray := prog_1_method_30_code
def yX9_needUser : MethodName := ⟨RX9, "needUser", "(I)V"⟩
abbrev cX9_needLeaf : ByteArray := prog_1_method_31_code
def yX9_needLeaf : MethodName := ⟨RX9, "needLeaf", "(I)V"⟩
abbrev cX9_needMachine : ByteArray := prog_1_method_32_code
def yX9_needMachine : MethodName := ⟨RX9, "needMachine", "(I)V"⟩
abbrev cX9_needJob : ByteArray := prog_1_method_33_code
def yX9_needJob : MethodName := ⟨RX9, "needJob", "(I)V"⟩
abbrev cX9_needOpen : ByteArray := prog_1_method_34_code
def yX9_needOpen : MethodName := ⟨RX9, "needOpen", "(I)V"⟩
abbrev cX9_needRange : ByteArray := prog_1_method_35_code
def yX9_needRange : MethodName := ⟨RX9, "needRange", "(III)V"⟩
abbrev cX9_worthOf : ByteArray := prog_1_method_36_code
def yX9_worthOf : MethodName := ⟨RX9, "worthOf", "(III)J"⟩
def RX10 : String := "ShareTicketsModel"
def TX10 : u_T := fun k => match k with
  | 0 => ("ShareTicketsModel", "a", "[I", true)
  | 1 => ("ShareTicketsModel", "fresh", "[I", true)
  | 2 => ("ShareTicketsModel", "aside", "[I", true)
  | 3 => ("ShareTicketsModel", "kept", "[I", true)
  | 4 => ("ShareTicketsModel", "keptMany", "I", false)
  | 5 => ("ShareTicketsModel", "thrown", "I", false)
  | 6 => ("ShareTicketsModel", "buffer", "[I", true)
  | 7 => ("ShareTicketsModel", "buffered", "I", false)
  | 8 => ("ShareTicketsModel", "size", "I", false)
  | 9 => ("ShareTicketsModel", "at", "I", false)
  | 10 => ("ShareTicketsModel", "behind", "I", false)
  | 11 => ("ShareTicketsModel", "kind", "I", false)
  | 12 => ("ShareTicketsModel", "number", "I", false)
  | 13 => ("ShareTicketsModel", "wrong", "I", false)
  | 14 => ("ShareTicketsModel", "wrongAt", "I", false)
  | 15 => ("ShareTicketsModel", "errorAt", "I", false)
  | 16 => ("ShareTicketsModel", "tickets", "[I", true)
  | 17 => ("ShareTicketsModel", "wasted", "I", false)
  | 18 => ("ShareTicketsModel", "written", "[I", true)
  | _ => ("ShareTicketsModel", "writtenMany", "I", false)
def tyX10 : Nat → FieldType := fun k => match k with
  | 0 => .array .int
  | 1 => .array .int
  | 2 => .array .int
  | 3 => .array .int
  | 4 => .int
  | 5 => .int
  | 6 => .array .int
  | 7 => .int
  | 8 => .int
  | 9 => .int
  | 10 => .int
  | 11 => .int
  | 12 => .int
  | 13 => .int
  | 14 => .int
  | 15 => .int
  | 16 => .array .int
  | 17 => .int
  | 18 => .array .int
  | _ => .int
abbrev wsX100 : List Cond := u_ws RX10 TX10 20
theorem nmX10 : ∀ a, a < 20 → ∀ b, b < 20 → a ≠ b → (TX10 a).2.1 ≠ (TX10 b).2.1 := by decide +kernel
theorem tyX10_ok : ∀ k, k < 20 → parseFieldDescriptor (TX10 k).2.2.1 = some (tyX10 k) := by decide +kernel
abbrev cX10_init : ByteArray := prog_12_method_1_code
def yX10_init : MethodName := ⟨RX10, "<init>", "()V"⟩
abbrev cX10_begins : ByteArray := prog_12_method_2_code
def yX10_begins : MethodName := ⟨RX10, "begins", "()V"⟩
abbrev cX10_becomes : ByteArray := prog_12_method_3_code
def yX10_becomes : MethodName := ⟨RX10, "becomes", "([II)V"⟩
abbrev cX10_thrown : ByteArray := prog_12_method_4_code
def yX10_thrown : MethodName := ⟨RX10, "thrown", "()I"⟩
abbrev cX10_isIn : ByteArray := prog_12_method_5_code
def yX10_isIn : MethodName := ⟨RX10, "isIn", "(III)Z"⟩
abbrev cX10_keeps : ByteArray := prog_12_method_6_code
def yX10_keeps : MethodName := ⟨RX10, "keeps", "()V"⟩
abbrev cX10_undo : ByteArray := prog_12_method_7_code
def yX10_undo : MethodName := ⟨RX10, "undo", "()I"⟩
abbrev cX10_append : ByteArray := prog_12_method_8_code
def yX10_append : MethodName := ⟨RX10, "append", "(IIIII)I"⟩
abbrev cX10_see : ByteArray := prog_12_method_9_code
def yX10_see : MethodName := ⟨RX10, "see", "(I)I"⟩
abbrev cX10_isLetter : ByteArray := prog_12_method_10_code
def yX10_isLetter : MethodName := ⟨RX10, "isLetter", "(I)Z"⟩
abbrev cX10_isDigit : ByteArray := prog_12_method_11_code
def yX10_isDigit : MethodName := ⟨RX10, "isDigit", "(I)Z"⟩
abbrev cX10_next : ByteArray := prog_12_method_12_code
def yX10_next : MethodName := ⟨RX10, "next", "()V"⟩
abbrev cX10_isWord : ByteArray := prog_12_method_13_code
def yX10_isWord : MethodName := ⟨RX10, "isWord", "(Ljava/lang/String;)Z"⟩
abbrev cX10_fails : ByteArray := prog_12_method_14_code
def yX10_fails : MethodName := ⟨RX10, "fails", "(I)V"⟩
abbrev cX10_must : ByteArray := prog_12_method_15_code
def yX10_must : MethodName := ⟨RX10, "must", "(Z)V"⟩
abbrev cX10_takes : ByteArray := prog_12_method_16_code
def yX10_takes : MethodName := ⟨RX10, "takes", "(II)I"⟩
abbrev cX10_readsUser : ByteArray := prog_12_method_17_code
def yX10_readsUser : MethodName := ⟨RX10, "readsUser", "()V"⟩
abbrev cX10_readsMachine : ByteArray := prog_12_method_18_code
def yX10_readsMachine : MethodName := ⟨RX10, "readsMachine", "()V"⟩
abbrev cX10_readsJob : ByteArray := prog_12_method_19_code
def yX10_readsJob : MethodName := ⟨RX10, "readsJob", "()V"⟩
abbrev cX10_readsSetting : ByteArray := prog_12_method_20_code
def yX10_readsSetting : MethodName := ⟨RX10, "readsSetting", "(I)V"⟩
abbrev cX10_readsStatement : ByteArray := prog_12_method_21_code
def yX10_readsStatement : MethodName := ⟨RX10, "readsStatement", "()V"⟩
abbrev cX10_load : ByteArray := prog_12_method_22_code
def yX10_load : MethodName := ⟨RX10, "load", "(I)I"⟩
abbrev cX10_sets : ByteArray := prog_12_method_23_code
def yX10_sets : MethodName := ⟨RX10, "sets", "([I[I)V"⟩
abbrev cX10_errorPosition : ByteArray := prog_12_method_24_code
def yX10_errorPosition : MethodName := ⟨RX10, "errorPosition", "()I"⟩
abbrev cX10_isUser : ByteArray := prog_12_method_25_code
def yX10_isUser : MethodName := ⟨RX10, "isUser", "(I)Z"⟩
abbrev cX10_childrenOf : ByteArray := prog_12_method_26_code
def yX10_childrenOf : MethodName := ⟨RX10, "childrenOf", "(I)I"⟩
abbrev cX10_isLeaf : ByteArray := prog_12_method_27_code
def yX10_isLeaf : MethodName := ⟨RX10, "isLeaf", "(I)Z"⟩
abbrev cX10_hasJobs : ByteArray := prog_12_method_28_code
def yX10_hasJobs : MethodName := ⟨RX10, "hasJobs", "(I)Z"⟩
abbrev cX10_hasLoan : ByteArray := prog_12_method_29_code
def yX10_hasLoan : MethodName := ⟨RX10, "hasLoan", "(I)Z"⟩
abbrev cX10_addsUser : ByteArray := prog_12_method_30_code
def yX10_addsUser : MethodName := ⟨RX10, "addsUser", "(II)V"⟩
abbrev cX10_baseOf : ByteArray := prog_12_method_31_code
def yX10_baseOf : MethodName := ⟨RX10, "baseOf", "(I)I"⟩
abbrev cX10_isLent : ByteArray := prog_12_method_32_code
def yX10_isLent : MethodName := ⟨RX10, "isLent", "(I)Z"⟩
abbrev cX10_ticketsOf : ByteArray := prog_12_method_33_code
def yX10_ticketsOf : MethodName := ⟨RX10, "ticketsOf", "(I)I"⟩
abbrev cX10_isBelow : ByteArray := prog_12_method_34_code
def yX10_isBelow : MethodName := ⟨RX10, "isBelow", "(II)Z"⟩
abbrev cX10_useOf : ByteArray := prog_12_method_35_code
def yX10_useOf : MethodName := ⟨RX10, "useOf", "(I)I"⟩
abbrev cX10_jobsOf : ByteArray := prog_12_method_36_code
def yX10_jobsOf : MethodName := ⟨RX10, "jobsOf", "(II)I"⟩
abbrev cX10_user : ByteArray := prog_12_method_37_code
def yX10_user : MethodName := ⟨RX10, "user", "(II)I"⟩
abbrev cX10_addUser : ByteArray := prog_12_method_38_code
def yX10_addUser : MethodName := ⟨RX10, "addUser", "(II)I"⟩
abbrev cX10_setShares : ByteArray := prog_12_method_39_code
def yX10_setShares : MethodName := ⟨RX10, "setShares", "(II)I"⟩
abbrev cX10_lent : ByteArray := prog_12_method_40_code
def yX10_lent : MethodName := ⟨RX10, "lent", "(II)I"⟩
abbrev cX10_cannotLend : ByteArray := prog_12_method_41_code
def yX10_cannotLend : MethodName := ⟨RX10, "cannotLend", "(III)Z"⟩
abbrev cX10_lend : ByteArray := prog_12_method_42_code
def yX10_lend : MethodName := ⟨RX10, "lend", "(IIII)I"⟩
abbrev cX10_goneAt : ByteArray := prog_12_method_43_code
def yX10_goneAt : MethodName := ⟨RX10, "goneAt", "(I)I"⟩
abbrev cX10_loan : ByteArray := prog_12_method_44_code
def yX10_loan : MethodName := ⟨RX10, "loan", "(II)I"⟩
abbrev cX10_endsLoans : ByteArray := prog_12_method_45_code
def yX10_endsLoans : MethodName := ⟨RX10, "endsLoans", "()V"⟩
abbrev cX10_balance : ByteArray := prog_12_method_46_code
def yX10_balance : MethodName := ⟨RX10, "balance", "(I)I"⟩
abbrev cX10_worksTickets : ByteArray := prog_12_method_47_code
def yX10_worksTickets : MethodName := ⟨RX10, "worksTickets", "()V"⟩
abbrev cX10_worthOf : ByteArray := prog_12_method_48_code
def yX10_worthOf : MethodName := ⟨RX10, "worthOf", "(II)J"⟩
abbrev cX10_loadOf : ByteArray := prog_12_method_49_code
def yX10_loadOf : MethodName := ⟨RX10, "loadOf", "(I)I"⟩
abbrev cX10_jobWorth : ByteArray := prog_12_method_50_code
def yX10_jobWorth : MethodName := ⟨RX10, "jobWorth", "(I)J"⟩
abbrev cX10_bestWaiting : ByteArray := prog_12_method_51_code
def yX10_bestWaiting : MethodName := ⟨RX10, "bestWaiting", "()I"⟩
abbrev cX10_leastRunning : ByteArray := prog_12_method_52_code
def yX10_leastRunning : MethodName := ⟨RX10, "leastRunning", "(I)I"⟩
abbrev cX10_ranked : ByteArray := prog_12_method_53_code
def yX10_ranked : MethodName := ⟨RX10, "ranked", "(I)I"⟩
abbrev cX10_worth : ByteArray := prog_12_method_54_code
def yX10_worth : MethodName := ⟨RX10, "worth", "(II)J"⟩
abbrev cX10_isMachine : ByteArray := prog_12_method_55_code
def yX10_isMachine : MethodName := ⟨RX10, "isMachine", "(I)Z"⟩
abbrev cX10_isJob : ByteArray := prog_12_method_56_code
def yX10_isJob : MethodName := ⟨RX10, "isJob", "(I)Z"⟩
abbrev cX10_of : ByteArray := prog_12_method_57_code
def yX10_of : MethodName := ⟨RX10, "of", "(II)I"⟩
abbrev cX10_lays : ByteArray := prog_12_method_58_code
def yX10_lays : MethodName := ⟨RX10, "lays", "(III)V"⟩
abbrev cX10_runningOn : ByteArray := prog_12_method_59_code
def yX10_runningOn : MethodName := ⟨RX10, "runningOn", "(I)I"⟩
abbrev cX10_freeMachine : ByteArray := prog_12_method_60_code
def yX10_freeMachine : MethodName := ⟨RX10, "freeMachine", "()I"⟩
abbrev cX10_freeSlots : ByteArray := prog_12_method_61_code
def yX10_freeSlots : MethodName := ⟨RX10, "freeSlots", "()I"⟩
abbrev cX10_inState : ByteArray := prog_12_method_62_code
def yX10_inState : MethodName := ⟨RX10, "inState", "(I)I"⟩
abbrev cX10_runs : ByteArray := prog_12_method_63_code
def yX10_runs : MethodName := ⟨RX10, "runs", "(II)V"⟩
abbrev cX10_interrupts : ByteArray := prog_12_method_64_code
def yX10_interrupts : MethodName := ⟨RX10, "interrupts", "(I)V"⟩
abbrev cX10_fills : ByteArray := prog_12_method_65_code
def yX10_fills : MethodName := ⟨RX10, "fills", "()V"⟩
abbrev cX10_preempts : ByteArray := prog_12_method_66_code
def yX10_preempts : MethodName := ⟨RX10, "preempts", "()V"⟩
abbrev cX10_machine : ByteArray := prog_12_method_67_code
def yX10_machine : MethodName := ⟨RX10, "machine", "(II)I"⟩
abbrev cX10_job : ByteArray := prog_12_method_68_code
def yX10_job : MethodName := ⟨RX10, "job", "(II)I"⟩
abbrev cX10_first : ByteArray := prog_12_method_69_code
def yX10_first : MethodName := ⟨RX10, "first", "()I"⟩
abbrev cX10_addsJob : ByteArray := prog_12_method_70_code
def yX10_addsJob : MethodName := ⟨RX10, "addsJob", "(II)V"⟩
abbrev cX10_submit : ByteArray := prog_12_method_71_code
def yX10_submit : MethodName := ⟨RX10, "submit", "(II)I"⟩
abbrev cX10_ends : ByteArray := prog_12_method_72_code
def yX10_ends : MethodName := ⟨RX10, "ends", "(II)V"⟩
abbrev cX10_cancel : ByteArray := prog_12_method_73_code
def yX10_cancel : MethodName := ⟨RX10, "cancel", "(I)I"⟩
abbrev cX10_setUp : ByteArray := prog_12_method_74_code
def yX10_setUp : MethodName := ⟨RX10, "setUp", "(IZ)I"⟩
abbrev cX10_least : ByteArray := prog_12_method_75_code
def yX10_least : MethodName := ⟨RX10, "least", "(I)I"⟩
abbrev cX10_most : ByteArray := prog_12_method_76_code
def yX10_most : MethodName := ⟨RX10, "most", "(I)I"⟩
abbrev cX10_set : ByteArray := prog_12_method_77_code
def yX10_set : MethodName := ⟨RX10, "set", "(II)I"⟩
abbrev cX10_count : ByteArray := prog_12_method_78_code
def yX10_count : MethodName := ⟨RX10, "count", "(I)I"⟩
abbrev cX10_ticksOnce : ByteArray := prog_12_method_79_code
def yX10_ticksOnce : MethodName := ⟨RX10, "ticksOnce", "()I"⟩
abbrev cX10_tick : ByteArray := prog_12_method_80_code
def yX10_tick : MethodName := ⟨RX10, "tick", "(I)I"⟩
abbrev cX10_finishedIn : ByteArray := prog_12_method_81_code
def yX10_finishedIn : MethodName := ⟨RX10, "finishedIn", "(I)I"⟩
abbrev cX10_ahead : ByteArray := prog_12_method_82_code
def yX10_ahead : MethodName := ⟨RX10, "ahead", "(II)I"⟩
abbrev cX10_lackOf : ByteArray := prog_12_method_83_code
def yX10_lackOf : MethodName := ⟨RX10, "lackOf", "(I)I"⟩
abbrev cX10_drift : ByteArray := prog_12_method_84_code
def yX10_drift : MethodName := ⟨RX10, "drift", "()I"⟩
abbrev cX10_part : ByteArray := prog_12_method_85_code
def yX10_part : MethodName := ⟨RX10, "part", "(I)F"⟩
abbrev cX10_neediest : ByteArray := prog_12_method_86_code
def yX10_neediest : MethodName := ⟨RX10, "neediest", "()I"⟩
abbrev cX10_says : ByteArray := prog_12_method_87_code
def yX10_says : MethodName := ⟨RX10, "says", "(I)V"⟩
abbrev cX10_saysJobs : ByteArray := prog_12_method_88_code
def yX10_saysJobs : MethodName := ⟨RX10, "saysJobs", "(I)V"⟩
abbrev cX10_writeMachines : ByteArray := prog_12_method_89_code
def yX10_writeMachines : MethodName := ⟨RX10, "writeMachines", "()I"⟩
abbrev cX10_writtenByte : ByteArray := prog_12_method_90_code
def yX10_writtenByte : MethodName := ⟨RX10, "writtenByte", "(I)I"⟩
def RJx145de : String := "java/io/Serializable"
def TJx145de : u_T := fun k => match k with
  | _ => ("", "", "", false)
def tyJx145de : Nat → FieldType := fun k => match k with
  | _ => .int
abbrev wsJx145de0 : List Cond := u_ws RJx145de TJx145de 0
theorem nmJx145de : ∀ a, a < 0 → ∀ b, b < 0 → a ≠ b → (TJx145de a).2.1 ≠ (TJx145de b).2.1 := by decide +kernel
theorem tyJx145de_ok : ∀ k, k < 0 → parseFieldDescriptor (TJx145de k).2.2.1 = some (tyJx145de k) := by decide +kernel
def RJx9f9b0 : String := "java/lang/CharSequence"
def TJx9f9b0 : u_T := fun k => match k with
  | _ => ("", "", "", false)
def tyJx9f9b0 : Nat → FieldType := fun k => match k with
  | _ => .int
abbrev wsJx9f9b00 : List Cond := u_ws RJx9f9b0 TJx9f9b0 0
theorem nmJx9f9b0 : ∀ a, a < 0 → ∀ b, b < 0 → a ≠ b → (TJx9f9b0 a).2.1 ≠ (TJx9f9b0 b).2.1 := by decide +kernel
theorem tyJx9f9b0_ok : ∀ k, k < 0 → parseFieldDescriptor (TJx9f9b0 k).2.2.1 = some (tyJx9f9b0 k) := by decide +kernel
def RJxb160c : String := "java/lang/Comparable"
def TJxb160c : u_T := fun k => match k with
  | _ => ("", "", "", false)
def tyJxb160c : Nat → FieldType := fun k => match k with
  | _ => .int
abbrev wsJxb160c0 : List Cond := u_ws RJxb160c TJxb160c 0
theorem nmJxb160c : ∀ a, a < 0 → ∀ b, b < 0 → a ≠ b → (TJxb160c a).2.1 ≠ (TJxb160c b).2.1 := by decide +kernel
theorem tyJxb160c_ok : ∀ k, k < 0 → parseFieldDescriptor (TJxb160c k).2.2.1 = some (tyJxb160c k) := by decide +kernel
def RJ9 : String := "java/lang/Math"
def TJ9 : u_T := fun k => match k with
  | _ => ("", "", "", false)
def tyJ9 : Nat → FieldType := fun k => match k with
  | _ => .int
abbrev wsJ90 : List Cond := u_ws RJ9 TJ9 0
theorem nmJ9 : ∀ a, a < 0 → ∀ b, b < 0 → a ≠ b → (TJ9 a).2.1 ≠ (TJ9 b).2.1 := by decide +kernel
theorem tyJ9_ok : ∀ k, k < 0 → parseFieldDescriptor (TJ9 k).2.2.1 = some (tyJ9 k) := by decide +kernel
abbrev cJ9_abs_0f7a4 : ByteArray := prog_20_method_59_code
def yJ9_abs_0f7a4 : MethodName := ⟨RJ9, "abs", "(I)I"⟩
abbrev cJ9_max_7cf53 : ByteArray := prog_20_method_65_code
def yJ9_max_7cf53 : MethodName := ⟨RJ9, "max", "(II)I"⟩
abbrev cJ9_min_7cf53 : ByteArray := prog_20_method_69_code
def yJ9_min_7cf53 : MethodName := ⟨RJ9, "min", "(II)I"⟩
def RJ0 : String := "java/lang/String"
def TJ0 : u_T := fun k => match k with
  | _ => ("", "", "", false)
def tyJ0 : Nat → FieldType := fun k => match k with
  | _ => .int
abbrev wsJ00 : List Cond := u_ws RJ0 TJ0 0
theorem nmJ0 : ∀ a, a < 0 → ∀ b, b < 0 → a ≠ b → (TJ0 a).2.1 ≠ (TJ0 b).2.1 := by decide +kernel
theorem tyJ0_ok : ∀ k, k < 0 → parseFieldDescriptor (TJ0 k).2.2.1 = some (tyJ0 k) := by decide +kernel
abbrev cJ0_length_8abf5 : ByteArray := prog_22_method_54_code
def yJ0_length_8abf5 : MethodName := ⟨RJ0, "length", "()I"⟩
abbrev cJ0_charAt_5068e : ByteArray := prog_22_method_56_code
def yJ0_charAt_5068e : MethodName := ⟨RJ0, "charAt", "(I)C"⟩
abbrev cJ0_coder_7d493 : ByteArray := prog_22_method_152_code
def yJ0_coder_7d493 : MethodName := ⟨RJ0, "coder", "()B"⟩
abbrev cJ0_isLatin1_aae02 : ByteArray := prog_22_method_154_code
def yJ0_isLatin1_aae02 : MethodName := ⟨RJ0, "isLatin1", "()Z"⟩
abbrev cJ0_checkIndex_df160 : ByteArray := prog_22_method_155_code
def yJ0_checkIndex_df160 : MethodName := ⟨RJ0, "checkIndex", "(II)V"⟩
def RJ1 : String := "java/lang/StringLatin1"
def TJ1 : u_T := fun k => match k with
  | _ => ("", "", "", false)
def tyJ1 : Nat → FieldType := fun k => match k with
  | _ => .int
abbrev wsJ10 : List Cond := u_ws RJ1 TJ1 0
theorem nmJ1 : ∀ a, a < 0 → ∀ b, b < 0 → a ≠ b → (TJ1 a).2.1 ≠ (TJ1 b).2.1 := by decide +kernel
theorem tyJ1_ok : ∀ k, k < 0 → parseFieldDescriptor (TJ1 k).2.2.1 = some (tyJ1 k) := by decide +kernel
abbrev cJ1_charAt_3b067 : ByteArray := prog_23_method_2_code
def yJ1_charAt_3b067 : MethodName := ⟨RJ1, "charAt", "([BI)C"⟩
def RJ2 : String := "java/lang/StringUTF16"
def TJ2 : u_T := fun k => match k with
  | _ => ("", "", "", false)
def tyJ2 : Nat → FieldType := fun k => match k with
  | _ => .int
abbrev wsJ20 : List Cond := u_ws RJ2 TJ2 0
theorem nmJ2 : ∀ a, a < 0 → ∀ b, b < 0 → a ≠ b → (TJ2 a).2.1 ≠ (TJ2 b).2.1 := by decide +kernel
theorem tyJ2_ok : ∀ k, k < 0 → parseFieldDescriptor (TJ2 k).2.2.1 = some (tyJ2 k) := by decide +kernel
abbrev cJ2_getChar_3b067 : ByteArray := prog_24_method_5_code
def yJ2_getChar_3b067 : MethodName := ⟨RJ2, "getChar", "([BI)C"⟩
abbrev cJ2_length_9d52b : ByteArray := prog_24_method_6_code
def yJ2_length_9d52b : MethodName := ⟨RJ2, "length", "([B)I"⟩
abbrev cJ2_charAt_3b067 : ByteArray := prog_24_method_83_code
def yJ2_charAt_3b067 : MethodName := ⟨RJ2, "charAt", "([BI)C"⟩
abbrev cJ2_checkIndex_2214a : ByteArray := prog_24_method_91_code
def yJ2_checkIndex_2214a : MethodName := ⟨RJ2, "checkIndex", "(I[B)V"⟩
def RJ10 : String := "java/lang/System"
def TJ10 : u_T := fun k => match k with
  | _ => ("", "", "", false)
def tyJ10 : Nat → FieldType := fun k => match k with
  | _ => .int
abbrev wsJ100 : List Cond := u_ws RJ10 TJ10 0
theorem nmJ10 : ∀ a, a < 0 → ∀ b, b < 0 → a ≠ b → (TJ10 a).2.1 ≠ (TJ10 b).2.1 := by decide +kernel
theorem tyJ10_ok : ∀ k, k < 0 → parseFieldDescriptor (TJ10 k).2.2.1 = some (tyJ10 k) := by decide +kernel
def RJxfd54e : String := "java/lang/constant/Constable"
def TJxfd54e : u_T := fun k => match k with
  | _ => ("", "", "", false)
def tyJxfd54e : Nat → FieldType := fun k => match k with
  | _ => .int
abbrev wsJxfd54e0 : List Cond := u_ws RJxfd54e TJxfd54e 0
theorem nmJxfd54e : ∀ a, a < 0 → ∀ b, b < 0 → a ≠ b → (TJxfd54e a).2.1 ≠ (TJxfd54e b).2.1 := by decide +kernel
theorem tyJxfd54e_ok : ∀ k, k < 0 → parseFieldDescriptor (TJxfd54e k).2.2.1 = some (tyJxfd54e k) := by decide +kernel
def RJx3cf43 : String := "java/lang/constant/ConstantDesc"
def TJx3cf43 : u_T := fun k => match k with
  | _ => ("", "", "", false)
def tyJx3cf43 : Nat → FieldType := fun k => match k with
  | _ => .int
abbrev wsJx3cf430 : List Cond := u_ws RJx3cf43 TJx3cf43 0
theorem nmJx3cf43 : ∀ a, a < 0 → ∀ b, b < 0 → a ≠ b → (TJx3cf43 a).2.1 ≠ (TJx3cf43 b).2.1 := by decide +kernel
theorem tyJx3cf43_ok : ∀ k, k < 0 → parseFieldDescriptor (TJx3cf43 k).2.2.1 = some (tyJx3cf43 k) := by decide +kernel
def RJ3 : String := "jdk/internal/util/Preconditions"
def TJ3 : u_T := fun k => match k with
  | _ => ("", "", "", false)
def tyJ3 : Nat → FieldType := fun k => match k with
  | _ => .int
abbrev wsJ30 : List Cond := u_ws RJ3 TJ3 0
theorem nmJ3 : ∀ a, a < 0 → ∀ b, b < 0 → a ≠ b → (TJ3 a).2.1 ≠ (TJ3 b).2.1 := by decide +kernel
theorem tyJ3_ok : ∀ k, k < 0 → parseFieldDescriptor (TJ3 k).2.2.1 = some (tyJ3 k) := by decide +kernel
abbrev cJ3_checkIndex_8e157 : ByteArray := prog_30_method_11_code
def yJ3_checkIndex_8e157 : MethodName := ⟨RJ3, "checkIndex", "(IILjava/util/function/BiFunction;)I"⟩
def RL : String := "ShareTicketsLaw"
abbrev cL_append : ByteArray := method_3_code
def yL_append : MethodName := ⟨RL, "append", "(LShareTickets;IIIII[J)I"⟩
abbrev cL_load : ByteArray := method_4_code
def yL_load : MethodName := ⟨RL, "load", "(LShareTickets;I[J)I"⟩
abbrev cL_count : ByteArray := method_5_code
def yL_count : MethodName := ⟨RL, "count", "(LShareTickets;I[J)I"⟩
abbrev cL_user : ByteArray := method_6_code
def yL_user : MethodName := ⟨RL, "user", "(LShareTickets;II[J)I"⟩
abbrev cL_addUser : ByteArray := method_7_code
def yL_addUser : MethodName := ⟨RL, "addUser", "(LShareTickets;II[J)I"⟩
abbrev cL_setShares : ByteArray := method_8_code
def yL_setShares : MethodName := ⟨RL, "setShares", "(LShareTickets;II[J)I"⟩
abbrev cL_lend : ByteArray := method_9_code
def yL_lend : MethodName := ⟨RL, "lend", "(LShareTickets;IIII[J)I"⟩
abbrev cL_loan : ByteArray := method_10_code
def yL_loan : MethodName := ⟨RL, "loan", "(LShareTickets;II[J)I"⟩
abbrev cL_balance : ByteArray := method_11_code
def yL_balance : MethodName := ⟨RL, "balance", "(LShareTickets;I[J)I"⟩
abbrev cL_ranked : ByteArray := method_12_code
def yL_ranked : MethodName := ⟨RL, "ranked", "(LShareTickets;I[J)I"⟩
abbrev cL_worth : ByteArray := method_13_code
def yL_worth : MethodName := ⟨RL, "worth", "(LShareTickets;II[J)I"⟩
abbrev cL_machine : ByteArray := method_14_code
def yL_machine : MethodName := ⟨RL, "machine", "(LShareTickets;II[J)I"⟩
abbrev cL_job : ByteArray := method_15_code
def yL_job : MethodName := ⟨RL, "job", "(LShareTickets;II[J)I"⟩
abbrev cL_first : ByteArray := method_16_code
def yL_first : MethodName := ⟨RL, "first", "(LShareTickets;[J)I"⟩
abbrev cL_submit : ByteArray := method_17_code
def yL_submit : MethodName := ⟨RL, "submit", "(LShareTickets;II[J)I"⟩
abbrev cL_cancel : ByteArray := method_18_code
def yL_cancel : MethodName := ⟨RL, "cancel", "(LShareTickets;I[J)I"⟩
abbrev cL_setUp : ByteArray := method_19_code
def yL_setUp : MethodName := ⟨RL, "setUp", "(LShareTickets;IZ[J)I"⟩
abbrev cL_set : ByteArray := method_20_code
def yL_set : MethodName := ⟨RL, "set", "(LShareTickets;II[J)I"⟩
abbrev cL_tick : ByteArray := method_21_code
def yL_tick : MethodName := ⟨RL, "tick", "(LShareTickets;I[J)I"⟩
abbrev cL_finishedIn : ByteArray := method_22_code
def yL_finishedIn : MethodName := ⟨RL, "finishedIn", "(LShareTickets;I[J)I"⟩
abbrev cL_ahead : ByteArray := method_23_code
def yL_ahead : MethodName := ⟨RL, "ahead", "(LShareTickets;II[J)I"⟩
abbrev cL_part : ByteArray := method_24_code
def yL_part : MethodName := ⟨RL, "part", "(LShareTickets;I[D)I"⟩
abbrev cL_writtenByte : ByteArray := method_25_code
def yL_writtenByte : MethodName := ⟨RL, "writtenByte", "(LShareTickets;I[J)I"⟩
abbrev cL_undo : ByteArray := method_26_code
def yL_undo : MethodName := ⟨RL, "undo", "(LShareTickets;[J)I"⟩
abbrev cL_law : ByteArray := code
def yL_law : MethodName := ⟨RL, "law", "([I)Z"⟩
end
section
/-! THE LAYER: an abstract walk. A heap of cells by numbers (a_E), values whose references are numbers, and one judgement AW: 'from here on, over any machine state that shows this, the walk W comes to its goal'. Rows r_.. turn AW at an instruction into AW at the next; contracts AM are methods by their answers. -/
abbrev a_cls : List vw_C := [(RX0, TX0, 3), (RX1, TX1, 8), (RX2, TX2, 6), (RX3, TX3, 3), (RX4, TX4, 2), (RX5, TX5, 9), (RX6, TX6, 6), (RX7, TX7, 7), (RX8, TX8, 5), (RX9, TX9, 5), (RX10, TX10, 20)]
/-- the words that every method carries -/
def a_GT : List Cond := lw_tbl.filter goodWord
theorem a_GT_good : ∀ w ∈ a_GT, goodWord w = true := fun w h => (List.mem_filter.mp h).2
theorem a_GT_in : GoodIn a_GT a_GT := fun w h => ⟨h, good_of_word (a_GT_good w h)⟩
/-- words that are not of that kind, but stay as well -/
def a_nw : Cond → Bool
  | .castable .. => true
  | .declares .. => true
  | .fieldLinkNest .. => true
  | .methodLinkNest .. => true
  | .arrayOver (.object _) => true
  | _ => false
def a_GN : List Cond := tables_1.filter a_nw
theorem a_GN_nw : ∀ w ∈ a_GN, a_nw w = true := fun w h => (List.mem_filter.mp h).2
theorem a_nw_warm {w : Cond} (hw : a_nw w = true) {s U : State} (hW : s.WarmedH U.vm) (h : va_Nw w s) : va_Nw w U := by
  cases w with
  | castable C T => exact va_Nw.warmC hW h
  | declares x => exact va_Nw.warmD hW h
  | fieldLinkNest a i b n d h' => exact va_Nw.warmF hW h
  | methodLinkNest a i x h' => exact va_Nw.warmM hW h
  | arrayOver ty =>
    cases ty with
    | object C => exact va_AO.moved hW.alike h
    | _ => simp [a_nw] at hw
  | _ => simp [a_nw] at hw
/-- a cell: an array (kind of its elements, length and contents) or an object (its class's number, its fields) -/
abbrev a_E : Type := (Nat × vp_A) ⊕ (Nat × List Value)
def a_ty : Nat → FieldType
  | 0 => .int
  | 1 => .byte
  | 2 => .long
  | 3 => .double
  | _ => .object RX5
/-- what a run's walk is given: class numbers and slots, where new cells begin, where old things lie, the script's length and ints -/
abbrev a_V : Type := va_G × Nat × (Nat → Nat) × Nat × (Nat → Int32)
def a_ad (V : a_V) (c : Nat) : Nat := if c < 5000 then V.2.1 + c else V.2.2.1 (c - 5000)
def a_cv (V : a_V) : Value → Value
  | .ref c => .ref (a_ad V c)
  | v => v
def a_ca (V : a_V) (a : vp_A) : vp_A := (a.1, match a.2 with
  | .inr (.inr (.inr (.inr f))) => .inr (.inr (.inr (.inr (fun j => (f j).map (a_ad V)))))
  | z => z)
def a_A (V : a_V) : Nat → Prop := fun q => V.2.1 ≤ q
/-- the numbered cells and the kit's world of them -/
def a_C (V : a_V) (h : List a_E) (ws : va_W) (tys : List (ClassId × FieldType)) : Prop :=
  ws.length = h.length ∧ ∀ (c : Nat) (e : a_E), h[c]? = some e → match e with
    | .inr o => ws[c]? = some (a_ad V c, .inr (o.1, o.2.map (a_cv V)))
    | .inl a => ∃ (cA : ClassId) (t0 : Nat), ws[c]? = some (a_ad V c, .inl (cA, a_ca V a.2)) ∧ tys[t0]? = some (cA, a_ty a.1)
abbrev a_H : Type := Bool × List a_E
def a_HP (V : a_V) (h : List a_E) (H : Heap) (s : State) (ws : va_W) (tys : List (ClassId × FieldType)) : Prop :=
  a_C V h ws tys ∧ va_P V.1 a_cls ws H ∧ va_D (a_A V) ws ∧ va_K V.1 a_cls tys s
/-- clean: no cell is new but the numbered ones -/
def a_cl (V : a_V) (h : a_H) (n : Nat) : Prop := h.1 = true → n = V.2.1 + h.2.length ∧ h.2.length ≤ 5000
theorem a_C.objAt {V : a_V} {h : List a_E} {ws : va_W} {tys : List (ClassId × FieldType)} (hC : a_C V h ws tys) {c ci : Nat} {vs : List Value} (hc : h[c]? = some (.inr (ci, vs))) : ws[c]? = some (a_ad V c, .inr (ci, vs.map (a_cv V))) := hC.2 c _ hc
theorem a_C.arrAt {V : a_V} {h : List a_E} {ws : va_W} {tys : List (ClassId × FieldType)} (hC : a_C V h ws tys) {c t : Nat} {a : vp_A} (hc : h[c]? = some (.inl (t, a))) : ∃ (cA : ClassId) (t0 : Nat), ws[c]? = some (a_ad V c, .inl (cA, a_ca V a)) ∧ tys[t0]? = some (cA, a_ty t) := hC.2 c _ hc
theorem a_C.setO {V : a_V} {h : List a_E} {ws : va_W} {tys : List (ClassId × FieldType)} (hC : a_C V h ws tys) {c ci : Nat} {vs : List Value} (hc : h[c]? = some (.inr (ci, vs))) (vs' : List Value) :
    a_C V (h.set c (.inr (ci, vs'))) (ws.set c (a_ad V c, .inr (ci, vs'.map (a_cv V)))) tys := by
  obtain ⟨h1, h2⟩ := hC
  have hl : c < h.length := (List.getElem?_eq_some_iff.mp hc).1
  refine ⟨by simp [h1], fun b e hb => ?_⟩
  by_cases hbc : b = c
  · subst hbc
    rw [List.getElem?_set_self hl] at hb
    cases hb
    show (ws.set b _)[b]? = _
    rw [List.getElem?_set_self (by omega)]
  · rw [List.getElem?_set_ne (Ne.symm hbc)] at hb
    have h3 := h2 b e hb
    cases e with
    | inr o =>
      show (ws.set c _)[b]? = _
      rw [List.getElem?_set_ne (Ne.symm hbc)]
      exact h3
    | inl a =>
      obtain ⟨cA, t0, e1, e2⟩ := h3
      exact ⟨cA, t0, by rw [List.getElem?_set_ne (Ne.symm hbc)]; exact e1, e2⟩
theorem a_C.setA {V : a_V} {h : List a_E} {ws : va_W} {tys : List (ClassId × FieldType)} (hC : a_C V h ws tys) {c t t0 : Nat} {a : vp_A} {cA : ClassId} (hc : h[c]? = some (.inl (t, a))) (ht : tys[t0]? = some (cA, a_ty t)) (a' : vp_A) :
    a_C V (h.set c (.inl (t, a'))) (ws.set c (a_ad V c, .inl (cA, a_ca V a'))) tys := by
  obtain ⟨h1, h2⟩ := hC
  have hl : c < h.length := (List.getElem?_eq_some_iff.mp hc).1
  refine ⟨by simp [h1], fun b e hb => ?_⟩
  by_cases hbc : b = c
  · subst hbc
    rw [List.getElem?_set_self hl] at hb
    cases hb
    exact ⟨cA, t0, by rw [List.getElem?_set_self (by omega)], ht⟩
  · rw [List.getElem?_set_ne (Ne.symm hbc)] at hb
    have h3 := h2 b e hb
    cases e with
    | inr o =>
      show (ws.set c _)[b]? = _
      rw [List.getElem?_set_ne (Ne.symm hbc)]
      exact h3
    | inl a =>
      obtain ⟨cA, t0, e1, e2⟩ := h3
      exact ⟨cA, t0, by rw [List.getElem?_set_ne (Ne.symm hbc)]; exact e1, e2⟩
theorem a_C.pushO {V : a_V} {h : List a_E} {ws : va_W} {tys : List (ClassId × FieldType)} (hC : a_C V h ws tys) (ci : Nat) (vs : List Value) :
    a_C V (h ++ [.inr (ci, vs)]) (ws ++ [(a_ad V h.length, .inr (ci, vs.map (a_cv V)))]) tys := by
  obtain ⟨h1, h2⟩ := hC
  refine ⟨by simp [h1], fun b e hb => ?_⟩
  by_cases hbc : b < h.length
  · rw [List.getElem?_append_left hbc] at hb
    have h3 := h2 b e hb
    cases e with
    | inr o =>
      show (ws ++ _)[b]? = _
      rw [List.getElem?_append_left (by omega)]
      exact h3
    | inl a =>
      obtain ⟨cA, t0, e1, e2⟩ := h3
      exact ⟨cA, t0, by rw [List.getElem?_append_left (by omega)]; exact e1, e2⟩
  · rw [List.getElem?_append_right (by omega)] at hb
    have hz : b - h.length < 1 := (List.getElem?_eq_some_iff.mp hb).1
    have hbe : b = h.length := by omega
    subst hbe
    rw [Nat.sub_self] at hb
    cases hb
    show (ws ++ _)[h.length]? = _
    rw [List.getElem?_append_right (by omega), h1, Nat.sub_self]
    rfl
theorem a_C.pushA {V : a_V} {h : List a_E} {ws : va_W} {tys : List (ClassId × FieldType)} (hC : a_C V h ws tys) (cA : ClassId) (t : Nat) (a : vp_A) :
    a_C V (h ++ [.inl (t, a)]) (ws ++ [(a_ad V h.length, .inl (cA, a_ca V a))]) (tys ++ [(cA, a_ty t)]) := by
  obtain ⟨h1, h2⟩ := hC
  refine ⟨by simp [h1], fun b e hb => ?_⟩
  by_cases hbc : b < h.length
  · rw [List.getElem?_append_left hbc] at hb
    have h3 := h2 b e hb
    cases e with
    | inr o =>
      show (ws ++ _)[b]? = _
      rw [List.getElem?_append_left (by omega)]
      exact h3
    | inl a =>
      obtain ⟨cA, t0, e1, e2⟩ := h3
      exact ⟨cA, t0, by rw [List.getElem?_append_left (by omega)]; exact e1, by rw [List.getElem?_append_left ((List.getElem?_eq_some_iff.mp e2).1)]; exact e2⟩
  · rw [List.getElem?_append_right (by omega)] at hb
    have hz : b - h.length < 1 := (List.getElem?_eq_some_iff.mp hb).1
    have hbe : b = h.length := by omega
    subst hbe
    rw [Nat.sub_self] at hb
    cases hb
    refine ⟨cA, tys.length, ?_, ?_⟩
    · rw [List.getElem?_append_right (by omega), h1, Nat.sub_self]; rfl
    · rw [List.getElem?_append_right (by omega), Nat.sub_self]; rfl
/-- what lies outside: the script, the three static arrays, the Strings, two statics of Throwable -/
def a_sn : Nat → String
  | 0 => "FIRST_SETTING"
  | 1 => "LEAST_SETTING"
  | _ => "GREATEST_SETTING"
def a_sv : Nat → List Int32
  | 0 => [10, 50, 5]
  | 1 => [1, 0, 1]
  | _ => [50, 400, 20]
def a_kw : List (List Int32) := [[117, 115, 101, 114], [109, 97, 99, 104, 105, 110, 101], [106, 111, 98], [104, 97, 108, 102], [109, 97, 114, 103, 105, 110], [99, 104, 101, 99, 107]]
def a_kt : List String := ["user", "machine", "job", "half", "margin", "check"]
def a_kc : List (String × Nat × Nat) := [(RX7, 56, 0), (RX7, 66, 1), (RX7, 71, 2), (RX7, 76, 3), (RX7, 81, 4), (RX7, 83, 5), (RX10, 131, 0), (RX10, 140, 1), (RX10, 145, 2), (RX10, 150, 3), (RX10, 155, 4), (RX10, 157, 5)]
def a_ex : List String := ["java/lang/IllegalStateException", "java/lang/IllegalArgumentException", "java/lang/IndexOutOfBoundsException", "java/util/NoSuchElementException"]
def a_X (V : a_V) (U : State) (H : Heap) : Prop :=
  (va_X (a_ad V 5000) V.2.2.2.1 V.2.2.2.2 U H ∧ a_ad V 5000 < V.2.1) ∧
  (∀ k, k < 3 → va_Z RX9 (a_sn k) "[I" (.ref (a_ad V (5001 + k))) (a_A V) U H ∧ va_T .int (a_ad V (5001 + k)) 3 (fun j => .int ((a_sv k).getD j 0)) (a_A V) U H) ∧
  (∀ k, k < 6 → va_O "java/lang/String" (a_ad V (5010 + k)) (a_A V) U H ∧ va_OF "java/lang/String" "coder" "B" (.int 0) (a_ad V (5010 + k)) (a_A V) U H ∧ va_OF "java/lang/String" "value" "[B" (.ref (a_ad V (5020 + k))) (a_ad V (5010 + k)) (a_A V) U H ∧ va_T .byte (a_ad V (5020 + k)) (a_kw.getD k []).length (fun j => .int ((a_kw.getD k []).getD j 0)) (a_A V) U H) ∧
  (∀ q ∈ a_kc, vk_R q.1 q.2.1 (a_kt.getD q.2.2 "") (a_ad V (5010 + q.2.2)) U) ∧
  (∀ own k tx, Cond.stringRef own k tx ∈ tables_1 → ∃ sa, vk_R own k tx sa U) ∧
  vx_Zq Bundle.tN "UNASSIGNED_STACK" Bundle.steD (a_A V) U H ∧ vx_Zq Bundle.tN "SUPPRESSED_SENTINEL" Bundle.listD (a_A V) U H ∧
  va_Z "java/lang/String" "COMPACT_STRINGS" "Z" (.int 1) (a_A V) U H ∧ (∀ x ∈ a_ex, ∀ y ∈ a_ex, x ≠ y → va_Nc x y U) ∧ (∀ w ∈ a_GN, va_Nw w U)
/-- a method as the walk sees it: class, bytes, locals, handlers, a constructor?, answer, depth, cells, slots -/
abbrev a_I : Type := String × ByteArray × Nat × List (Nat × Nat × Nat × Nat) × Bool × Option FieldType × Nat × Nat × Nat × Option (Nat × (Nat → Int32))
abbrev i_own (I : a_I) : String := I.1
abbrev i_cc (I : a_I) : ByteArray := I.2.1
abbrev i_nL (I : a_I) : Nat := I.2.2.1
abbrev i_hh (I : a_I) : List (Nat × Nat × Nat × Nat) := I.2.2.2.1
abbrev i_ini (I : a_I) : Bool := I.2.2.2.2.1
abbrev i_ret (I : a_I) : Option FieldType := I.2.2.2.2.2.1
abbrev i_d (I : a_I) : Nat := I.2.2.2.2.2.2.1
abbrev i_mc (I : a_I) : Nat := I.2.2.2.2.2.2.2.1
abbrev i_ms (I : a_I) : Nat := I.2.2.2.2.2.2.2.2.1
abbrev i_xs (I : a_I) : Option (Nat × (Nat → Int32)) := I.2.2.2.2.2.2.2.2.2
/-- an answer, or the name of what was thrown -/
abbrev a_O : Type := Option Value ⊕ String
abbrev a_Q : Type := a_O → a_H → Prop
def a_CT (V : a_V) (I : a_I) (p : Program) (l : Launch) (R : Room) (s : State) (m : MethodId) (args : Array Value) (meth : Method) (c : Code) : Prop :=
  p.tables.exec = Jvm.exec ∧ c.code = i_cc I ∧ c.maxLocals = i_nL I ∧ s.vm.findClass (i_own I) = some m.cls ∧ (∀ w ∈ a_GT, w.before args s = true) ∧ meth.locks = false ∧ l.stackTraces = false ∧
  (i_d I ≤ R.frames ∧ 60 * i_d I ≤ R.locals ∧ R.cells = i_mc I ∧ R.slots = i_ms I) ∧ c.exceptionTable.toList = tableOf (i_hh I) ∧ (i_ini I = true → meth.name = "<init>") ∧ a_X V s s.heap ∧ V.2.1 ≤ s.heap.size ∧ (∀ q, i_xs I = some q → V.2.2.2.1 = q.1 ∧ V.2.2.2.2 = q.2)
def a_rd (cc : ByteArray) (pc : Nat) (v : Option Value) : Prop := match v with
  | none => decode cc pc = .ok (.return_, 1)
  | some (.int _) => decode cc pc = .ok (.ireturn, 1)
  | some (.long _) => decode cc pc = .ok (.lreturn, 1)
  | some (.float _) => decode cc pc = .ok (.freturn, 1)
  | _ => False
def a_ok (ret : Option FieldType) (v : Option Value) : Prop := match v with
  | none => ret = none
  | some (.int x) => ∃ ty, ret = some ty ∧ narrow ty (.int x) = .int x
  | some (.long _) => ret = some .long
  | some (.float _) => ret = some .float
  | _ => False
/-- a place where a new exception with a text is made and thrown -/
def a_th (I : a_I) (pc : Nat) (E : String) : Prop :=
  ∃ (ik is ic : Nat) (tx : String), E ∈ a_ex ∧
    Cond.classLink (i_own I) ik E ∈ a_GT ∧ Cond.initialized E ∈ a_GT ∧ Cond.stringRef (i_own I) is tx ∈ tables_1 ∧
    (∀ w ∈ vx_atS (i_own I) ic E ["java/lang/RuntimeException", "java/lang/Exception"], w ∈ a_GT ∨ (w ∈ a_GN ∧ w.onTables = true)) ∧
    decode (i_cc I) pc = .ok (.new ik, 3) ∧ decode (i_cc I) (pc + 3) = .ok (.dup, 1) ∧
    ((decode (i_cc I) (pc + 4) = .ok (.ldc is, 2) ∧ decode (i_cc I) (pc + 6) = .ok (.invokespecial ic, 3) ∧ decode (i_cc I) (pc + 9) = .ok (.athrow, 1)) ∨
     (decode (i_cc I) (pc + 4) = .ok (.ldc_w is, 3) ∧ decode (i_cc I) (pc + 7) = .ok (.invokespecial ic, 3) ∧ decode (i_cc I) (pc + 10) = .ok (.athrow, 1)))
def a_RT (V : a_V) (I : a_I) (p : Program) (l : Launch) (e : Env) (R : Room) (s : State) (m : MethodId) (args : Array Value) (below : List Frame) (meth : Method) (c : Code) (Gl : State → Prop) (Q : a_Q) : Prop :=
  (∀ (H : Heap) (locs : List Loc) (h : a_H) (ws : va_W) (tys : List (ClassId × FieldType)) (pc : Nat) (ls : Array Slot) (v : Option Value), a_HP V h.2 H s ws tys → va_S (a_A V) s.heap H locs → Q (.inl v) h → a_rd (i_cc I) pc v → a_ok (i_ret I) v →
    W p l e R s m args below meth c H locs (i_mc I) (i_ms I) Gl (F0 m pc ls (v.map (a_cv V)).toList)) ∧
  (i_hh I = [] → ∀ (H : Heap) (locs : List Loc) (h : a_H) (ws : va_W) (tys : List (ClassId × FieldType)) (pc : Nat) (ls : Array Slot) (rest : List Value) (E : String) (ce : Cell) (q : Addr), a_HP V h.2 H s ws tys → va_S (a_A V) s.heap H locs → Q (.inr E) h → H[q]? = some ce → ce.vm = .none → s.vm.findClass E = some ce.cls →
    vx_W p l e R s m args below meth c H locs (i_mc I) (i_ms I) Gl (F0 m pc ls rest) q) ∧
  (i_hh I = [] → ∀ (H : Heap) (locs : List Loc) (h : a_H) (ws : va_W) (tys : List (ClassId × FieldType)) (pc : Nat) (ls : Array Slot) (rest : List Value) (E : String) (uc us : Nat), a_HP V h.2 H s ws tys → va_S (a_A V) s.heap H locs → Q (.inr E) (false, h.2) → a_th I pc E → 6 ≤ i_d I → (rest.map fun v => v.category).sum ≤ 200 → uc + 1 ≤ i_mc I → us + 6 ≤ i_ms I → ls.size = c.maxLocals →
    W p l e R s m args below meth c H locs uc us Gl (F0 m pc ls rest))
/-- the locals: what the list has is there; .null in the list: unknown -/
def a_L (V : a_V) (lsC : Array Slot) (nL : Nat) (ls : List Value) : Prop :=
  lsC.size = nL ∧ lv_wf lsC ∧ ∀ (i : Nat) (v : Value), ls[i]? = some v → v ≠ .null → lsC[i]? = some (.val (a_cv V v))
def AW (I : a_I) (pc : Nat) (ls st : List Value) (h : a_H) (uc us : Nat) (Q : a_Q) : Prop :=
  ∀ (V : a_V) (p : Program) (l : Launch) (e : Env) (R : Room) (s : State) (m : MethodId) (args : Array Value) (below : List Frame) (meth : Method) (c : Code) (H : Heap) (locs : List Loc) (Gl : State → Prop) (ws : va_W) (tys : List (ClassId × FieldType)) (lsC : Array Slot),
    a_CT V I p l R s m args meth c → a_RT V I p l e R s m args below meth c Gl Q → a_cl V h (s.heap.size + uc) → a_HP V h.2 H s ws tys → va_S (a_A V) s.heap H locs → uc ≤ i_mc I → us ≤ i_ms I → a_L V lsC (i_nL I) ls →
    W p l e R s m args below meth c H locs uc us Gl (F0 m pc lsC (st.map (a_cv V)))
def a_rm (d mc ms : Nat) : Room := { frames := d, cells := mc, slots := ms, locals := 60 * d }
def a_Pre (V : a_V) (h : a_H) (U : State) : Prop := (∃ ws tys, a_HP V h.2 U.heap U ws tys) ∧ a_X V U U.heap ∧ a_cl V h U.heap.size ∧ V.2.1 ≤ U.heap.size
def a_Qc (V : a_V) (Q : a_Q) : Array Value → State → Outcome → State → Prop := fun _ st o t =>
  (∃ (v : Option Value) (h : a_H), o = .returned (v.map (a_cv V)) ∧ Q (.inl v) h ∧ ∃ ws tys, a_HP V h.2 t.heap t ws tys) ∧ va_F (a_A V) st t
def a_XC (V : a_V) (Q : a_Q) : String → State → State → Prop := fun E st t =>
  (∃ h : a_H, Q (.inr E) h ∧ ∃ ws tys, a_HP V h.2 t.heap t ws tys) ∧ va_F (a_A V) st t
def a_cd (y : MethodName) (I : a_I) : Cond := if i_hh I = [] then .code y (i_cc I) (i_nL I) (i_ret I) else .codeWith y (i_cc I) (i_nL I) (i_ret I) (i_hh I)
/-- a method's contract: from these arguments and this heap it comes to Q -/
def AM (y : MethodName) (I : a_I) (args : List Value) (h : a_H) (Q : a_Q) : Prop :=
  ∀ (l : Launch) (V : a_V), l.stackTraces = false →
    vx_Met l y (a_cd y I :: a_GT) (a_rm (i_d I) (i_mc I) (i_ms I)) (va_Pc (args.map (a_cv V)) (a_Pre V h)) (a_Qc V Q) (a_XC V Q) (i_mc I) (i_ms I) (a_A V)
/-- .. to just one answer and heap -/
def AD (y : MethodName) (I : a_I) (args : List Value) (h : a_H) (o : a_O) (h' : a_H) : Prop := ∀ Q : a_Q, Q o h' → AM y I args h Q
theorem a_HP.moved {V : a_V} {h : List a_E} {H : Heap} {s t : State} {ws : va_W} {tys : List (ClassId × FieldType)} (hvm : s.vm.Alike t.vm) (hP : a_HP V h H s ws tys) : a_HP V h H t ws tys :=
  ⟨hP.1, hP.2.1, hP.2.2.1, va_K.moved hvm hP.2.2.2⟩
theorem a_X.moved {V : a_V} {u U : State} {H : Heap} (hW : u.WarmedH U.vm) (h : a_X V u H) : a_X V U H := by
  have hvm := hW.alike
  obtain ⟨⟨h1, h1b⟩, h2, h3, h4, h5, h6, h7, h8, h9, h10⟩ := h
  exact ⟨⟨va_X.moved hvm h1, h1b⟩, fun k hk => ⟨va_Z.moved hvm (h2 k hk).1, va_T.moved hvm (h2 k hk).2⟩, fun k hk => ⟨va_O.moved hvm (h3 k hk).1, va_OF.moved hvm (h3 k hk).2.1, va_OF.moved hvm (h3 k hk).2.2.1, va_T.moved hvm (h3 k hk).2.2.2⟩,
    fun q hq => vk_R.warm hW (h4 q hq), fun own k tx hq => by obtain ⟨sa, h⟩ := h5 own k tx hq; exact ⟨sa, vk_R.warm hW h⟩, vx_Zq.moved hvm h6, vx_Zq.moved hvm h7, va_Z.moved hvm h8, fun x hx y hy hn => va_Nc.moved hvm (h9 x hx y hy hn), fun w hw => a_nw_warm (a_GN_nw w hw) hW (h10 w hw)⟩
theorem a_X.kept {V : a_V} {U : State} {H H1 : Heap} (h : a_X V U H) (hB : V.2.1 ≤ H.size) (hq : ∀ a : Nat, a < H.size → ¬ a_A V a → H1[a]? = H[a]?) : a_X V U H1 := by
  obtain ⟨⟨h1, h1b⟩, h2, h3, h4, h5, h6, h7, h8, h9, h10⟩ := h
  exact ⟨⟨va_X.kept h1 (hq _ (by omega) (by unfold a_A; omega)), h1b⟩, fun k hk => ⟨va_Z.kept (h2 k hk).1 hq, va_T.kept (h2 k hk).2 hq⟩, fun k hk => ⟨va_O.kept (h3 k hk).1 hq, va_OF.kept (h3 k hk).2.1 hq, va_OF.kept (h3 k hk).2.2.1 hq, va_T.kept (h3 k hk).2.2.2 hq⟩,
    h4, h5, vx_Zq.kept h6 hq, vx_Zq.kept h7 hq, va_Z.kept h8 hq, h9, h10⟩
theorem a_Pre.blind {av : List Value} {V : a_V} {h : a_H} : FrameBlind (va_Pc av (a_Pre V h)) := fun a U g mk hp => by
  obtain ⟨e, ⟨ws, tys, hP⟩, hX, h3⟩ := hp
  exact ⟨e, ⟨ws, tys, hP⟩, a_X.moved (U := U.calling g mk a) (State.WarmedH.refl U) hX, h3⟩
theorem a_cv_cat (V : a_V) (v : Value) : (a_cv V v).category = v.category := by cases v <;> rfl
def a_ll (V : a_V) (ls : List Value) : List (Nat × Value) := (List.range ls.length).filterMap (fun i => match ls[i]? with
  | some v => if v = .null then none else some (i, a_cv V v)
  | none => none)
theorem a_ll_mem {V : a_V} {ls : List Value} {q : Nat × Value} : q ∈ a_ll V ls ↔ ∃ v, ls[q.1]? = some v ∧ v ≠ .null ∧ q.2 = a_cv V v := by
  unfold a_ll
  rw [List.mem_filterMap]
  constructor
  · rintro ⟨i, hi, h⟩
    cases hv : ls[i]? with
    | none => simp [hv] at h
    | some v =>
      by_cases hn : v = .null
      · simp [hv, hn] at h
      · simp [hv, hn] at h
        subst h
        exact ⟨v, hv, hn, rfl⟩
  · rintro ⟨v, h1, h2, h3⟩
    refine ⟨q.1, List.mem_range.mpr (List.getElem?_eq_some_iff.mp h1).1, ?_⟩
    simp [h1, h2, ← h3]
theorem a_L.has {V : a_V} {lsC : Array Slot} {nL : Nat} {ls : List Value} (h : a_L V lsC nL ls) : lv_has lsC nL (a_ll V ls) := by
  refine ⟨h.1, h.2.1, fun q hq => ?_⟩
  obtain ⟨v, h1, h2, h3⟩ := a_ll_mem.mp hq
  rw [h3]
  exact h.2.2 q.1 v h1 h2
theorem a_L.st1 {V : a_V} {lsC : Array Slot} {nL i : Nat} {ls : List Value} {v : Value} (hk : ∀ j w, ls[j]? = some w → j + 1 = i → w.category = 1)
    (h : lv_has lsC nL ((i, a_cv V v) :: (a_ll V ls).filter (fun q => !(q.1 == i) && !(q.1 + 1 == i && q.2.category == 2)))) : a_L V lsC nL (ls.set i v) := by
  refine ⟨h.1, h.2.1, fun j w hj hw => ?_⟩
  by_cases hji : j = i
  · subst hji
    have hl : j < ls.length := by have := (List.getElem?_eq_some_iff.mp hj).1; simpa using this
    rw [List.getElem?_set_self hl] at hj
    cases hj
    exact h.2.2 (j, a_cv V v) List.mem_cons_self
  · rw [List.getElem?_set_ne (Ne.symm hji)] at hj
    refine h.2.2 (j, a_cv V w) (List.mem_cons_of_mem _ (List.mem_filter.mpr ⟨a_ll_mem.mpr ⟨w, hj, hw, rfl⟩, ?_⟩))
    by_cases h2 : j + 1 = i
    · have := hk j w hj h2
      simp [hji, a_cv_cat, this]
    · simp [hji, h2]
theorem a_L.st2 {V : a_V} {lsC : Array Slot} {nL i : Nat} {ls : List Value} {v : Value} (hk : ∀ j w, ls[j]? = some w → j + 1 = i → w.category = 1)
    (h : lv_has lsC nL ((i, a_cv V v) :: (a_ll V ls).filter (fun q => !(q.1 == i) && (!(q.1 == i + 1) && !(q.1 + 1 == i && q.2.category == 2))))) : a_L V lsC nL ((ls.set i v).set (i + 1) .null) := by
  refine ⟨h.1, h.2.1, fun j w hj hw => ?_⟩
  by_cases hj1 : j = i + 1
  · subst hj1
    have hl : i + 1 < ls.length := by have := (List.getElem?_eq_some_iff.mp hj).1; simpa using this
    rw [List.getElem?_set_self (by simpa using hl)] at hj
    cases hj
    exact absurd rfl hw
  · rw [List.getElem?_set_ne (Ne.symm hj1)] at hj
    by_cases hji : j = i
    · subst hji
      have hl : j < ls.length := by have := (List.getElem?_eq_some_iff.mp hj).1; simpa using this
      rw [List.getElem?_set_self hl] at hj
      cases hj
      exact h.2.2 (j, a_cv V v) List.mem_cons_self
    · rw [List.getElem?_set_ne (Ne.symm hji)] at hj
      refine h.2.2 (j, a_cv V w) (List.mem_cons_of_mem _ (List.mem_filter.mpr ⟨a_ll_mem.mpr ⟨w, hj, hw, rfl⟩, ?_⟩))
      by_cases h2 : j + 1 = i
      · have := hk j w hj h2
        simp [hji, hj1, a_cv_cat, this]
      · simp [hji, hj1, h2]
section AR
variable {I : a_I} {pc uc us : Nat} {ls st : List Value} {h : a_H} {Q : a_Q}
theorem r_iadd {x y : Int32} (hd : decode (i_cc I) pc = .ok (.iadd, 1)) (k : AW I (pc + 1) ls (.int (x + y) :: st) h uc us Q) : AW I pc ls (.int y :: .int x :: st) h uc us Q := by
  intro V p l e R s m args below meth c H locs Gl ws tys lsC hC hR hN hH hS hu hv hL
  exact lv_iadd hC.1 hC.2.1 hd (k V p l e R s m args below meth c H locs Gl ws tys lsC hC hR hN hH hS hu hv hL)
theorem r_isub {x y : Int32} (hd : decode (i_cc I) pc = .ok (.isub, 1)) (k : AW I (pc + 1) ls (.int (x - y) :: st) h uc us Q) : AW I pc ls (.int y :: .int x :: st) h uc us Q := by
  intro V p l e R s m args below meth c H locs Gl ws tys lsC hC hR hN hH hS hu hv hL
  exact lv_isub hC.1 hC.2.1 hd (k V p l e R s m args below meth c H locs Gl ws tys lsC hC hR hN hH hS hu hv hL)
theorem r_imul {x y : Int32} (hd : decode (i_cc I) pc = .ok (.imul, 1)) (k : AW I (pc + 1) ls (.int (x * y) :: st) h uc us Q) : AW I pc ls (.int y :: .int x :: st) h uc us Q := by
  intro V p l e R s m args below meth c H locs Gl ws tys lsC hC hR hN hH hS hu hv hL
  exact lv_imul hC.1 hC.2.1 hd (k V p l e R s m args below meth c H locs Gl ws tys lsC hC hR hN hH hS hu hv hL)
theorem r_iand {x y : Int32} (hd : decode (i_cc I) pc = .ok (.iand, 1)) (k : AW I (pc + 1) ls (.int (x &&& y) :: st) h uc us Q) : AW I pc ls (.int y :: .int x :: st) h uc us Q := by
  intro V p l e R s m args below meth c H locs Gl ws tys lsC hC hR hN hH hS hu hv hL
  exact lv_iand hC.1 hC.2.1 hd (k V p l e R s m args below meth c H locs Gl ws tys lsC hC hR hN hH hS hu hv hL)
theorem r_ishr {x y : Int32} (hd : decode (i_cc I) pc = .ok (.ishr, 1)) (k : AW I (pc + 1) ls (.int (x >>> (y &&& 31)) :: st) h uc us Q) : AW I pc ls (.int y :: .int x :: st) h uc us Q := by
  intro V p l e R s m args below meth c H locs Gl ws tys lsC hC hR hN hH hS hu hv hL
  exact lv_ishr hC.1 hC.2.1 hd (k V p l e R s m args below meth c H locs Gl ws tys lsC hC hR hN hH hS hu hv hL)
theorem r_idiv {x y : Int32} (hd : decode (i_cc I) pc = .ok (.idiv, 1)) (hne : ¬ y = 0) (k : AW I (pc + 1) ls (.int (x / y) :: st) h uc us Q) : AW I pc ls (.int y :: .int x :: st) h uc us Q := by
  intro V p l e R s m args below meth c H locs Gl ws tys lsC hC hR hN hH hS hu hv hL
  exact lv_idiv hC.1 hC.2.1 hd hne (k V p l e R s m args below meth c H locs Gl ws tys lsC hC hR hN hH hS hu hv hL)
theorem r_irem {x y : Int32} (hd : decode (i_cc I) pc = .ok (.irem, 1)) (hne : ¬ y = 0) (k : AW I (pc + 1) ls (.int (x % y) :: st) h uc us Q) : AW I pc ls (.int y :: .int x :: st) h uc us Q := by
  intro V p l e R s m args below meth c H locs Gl ws tys lsC hC hR hN hH hS hu hv hL
  have k2 := k V p l e R s m args below meth c H locs Gl ws tys lsC hC hR hN hH hS hu hv hL
  rw [← irem_eq_mod] at k2
  exact lv_irem hC.1 hC.2.1 hd hne k2
theorem r_ineg {x : Int32} (hd : decode (i_cc I) pc = .ok (.ineg, 1)) (k : AW I (pc + 1) ls (.int (-x) :: st) h uc us Q) : AW I pc ls (.int x :: st) h uc us Q := by
  intro V p l e R s m args below meth c H locs Gl ws tys lsC hC hR hN hH hS hu hv hL
  exact lv_ineg hC.1 hC.2.1 hd (k V p l e R s m args below meth c H locs Gl ws tys lsC hC hR hN hH hS hu hv hL)
theorem r_ladd {x y : Int64} (hd : decode (i_cc I) pc = .ok (.ladd, 1)) (k : AW I (pc + 1) ls (.long (x + y) :: st) h uc us Q) : AW I pc ls (.long y :: .long x :: st) h uc us Q := by
  intro V p l e R s m args below meth c H locs Gl ws tys lsC hC hR hN hH hS hu hv hL
  exact lv_ladd hC.1 hC.2.1 hd (k V p l e R s m args below meth c H locs Gl ws tys lsC hC hR hN hH hS hu hv hL)
theorem r_lmul {x y : Int64} (hd : decode (i_cc I) pc = .ok (.lmul, 1)) (k : AW I (pc + 1) ls (.long (x * y) :: st) h uc us Q) : AW I pc ls (.long y :: .long x :: st) h uc us Q := by
  intro V p l e R s m args below meth c H locs Gl ws tys lsC hC hR hN hH hS hu hv hL
  exact lv_lmul hC.1 hC.2.1 hd (k V p l e R s m args below meth c H locs Gl ws tys lsC hC hR hN hH hS hu hv hL)
theorem r_land {x y : Int64} (hd : decode (i_cc I) pc = .ok (.land, 1)) (k : AW I (pc + 1) ls (.long (x &&& y) :: st) h uc us Q) : AW I pc ls (.long y :: .long x :: st) h uc us Q := by
  intro V p l e R s m args below meth c H locs Gl ws tys lsC hC hR hN hH hS hu hv hL
  exact lv_land hC.1 hC.2.1 hd (k V p l e R s m args below meth c H locs Gl ws tys lsC hC hR hN hH hS hu hv hL)
theorem r_lor {x y : Int64} (hd : decode (i_cc I) pc = .ok (.lor, 1)) (k : AW I (pc + 1) ls (.long (x ||| y) :: st) h uc us Q) : AW I pc ls (.long y :: .long x :: st) h uc us Q := by
  intro V p l e R s m args below meth c H locs Gl ws tys lsC hC hR hN hH hS hu hv hL
  exact lv_lor hC.1 hC.2.1 hd (k V p l e R s m args below meth c H locs Gl ws tys lsC hC hR hN hH hS hu hv hL)
theorem r_ldiv {x y : Int64} (hd : decode (i_cc I) pc = .ok (.ldiv, 1)) (hne : ¬ y = 0) (k : AW I (pc + 1) ls (.long (x / y) :: st) h uc us Q) : AW I pc ls (.long y :: .long x :: st) h uc us Q := by
  intro V p l e R s m args below meth c H locs Gl ws tys lsC hC hR hN hH hS hu hv hL
  exact lv_ldiv hC.1 hC.2.1 hd hne (k V p l e R s m args below meth c H locs Gl ws tys lsC hC hR hN hH hS hu hv hL)
theorem r_lshl {x : Int64} {y : Int32} (hd : decode (i_cc I) pc = .ok (.lshl, 1)) (k : AW I (pc + 1) ls (.long (x <<< (y.toInt64 &&& 63)) :: st) h uc us Q) : AW I pc ls (.int y :: .long x :: st) h uc us Q := by
  intro V p l e R s m args below meth c H locs Gl ws tys lsC hC hR hN hH hS hu hv hL
  exact lv_lshl hC.1 hC.2.1 hd rfl (k V p l e R s m args below meth c H locs Gl ws tys lsC hC hR hN hH hS hu hv hL)
theorem r_lshr {x : Int64} {y : Int32} (hd : decode (i_cc I) pc = .ok (.lshr, 1)) (k : AW I (pc + 1) ls (.long (x >>> (y.toInt64 &&& 63)) :: st) h uc us Q) : AW I pc ls (.int y :: .long x :: st) h uc us Q := by
  intro V p l e R s m args below meth c H locs Gl ws tys lsC hC hR hN hH hS hu hv hL
  exact lv_lshr hC.1 hC.2.1 hd rfl (k V p l e R s m args below meth c H locs Gl ws tys lsC hC hR hN hH hS hu hv hL)
theorem r_i2l {x : Int32} (hd : decode (i_cc I) pc = .ok (.i2l, 1)) (k : AW I (pc + 1) ls (.long x.toInt64 :: st) h uc us Q) : AW I pc ls (.int x :: st) h uc us Q := by
  intro V p l e R s m args below meth c H locs Gl ws tys lsC hC hR hN hH hS hu hv hL
  exact lv_i2l hC.1 hC.2.1 hd rfl (k V p l e R s m args below meth c H locs Gl ws tys lsC hC hR hN hH hS hu hv hL)
theorem r_l2i {x : Int64} (hd : decode (i_cc I) pc = .ok (.l2i, 1)) (k : AW I (pc + 1) ls (.int x.toInt32 :: st) h uc us Q) : AW I pc ls (.long x :: st) h uc us Q := by
  intro V p l e R s m args below meth c H locs Gl ws tys lsC hC hR hN hH hS hu hv hL
  exact lv_l2i hC.1 hC.2.1 hd rfl (k V p l e R s m args below meth c H locs Gl ws tys lsC hC hR hN hH hS hu hv hL)
theorem r_i2b {x : Int32} (hd : decode (i_cc I) pc = .ok (.i2b, 1)) (k : AW I (pc + 1) ls (.int x.toInt8.toInt32 :: st) h uc us Q) : AW I pc ls (.int x :: st) h uc us Q := by
  intro V p l e R s m args below meth c H locs Gl ws tys lsC hC hR hN hH hS hu hv hL
  exact lv_i2b hC.1 hC.2.1 hd rfl (k V p l e R s m args below meth c H locs Gl ws tys lsC hC hR hN hH hS hu hv hL)
theorem r_i2f {x : Int32} (hd : decode (i_cc I) pc = .ok (.i2f, 1)) (k : AW I (pc + 1) ls (.float (FP.i2f x) :: st) h uc us Q) : AW I pc ls (.int x :: st) h uc us Q := by
  intro V p l e R s m args below meth c H locs Gl ws tys lsC hC hR hN hH hS hu hv hL
  exact lv_i2f hC.1 hC.2.1 hd (k V p l e R s m args below meth c H locs Gl ws tys lsC hC hR hN hH hS hu hv hL)
theorem r_fdiv {x y : UInt32} (hd : decode (i_cc I) pc = .ok (.fdiv, 1)) (hne : vf_n32 (FP.fdiv x y)) (k : AW I (pc + 1) ls (.float (FP.fdiv x y) :: st) h uc us Q) : AW I pc ls (.float y :: .float x :: st) h uc us Q := by
  intro V p l e R s m args below meth c H locs Gl ws tys lsC hC hR hN hH hS hu hv hL
  exact lv_fdiv hC.1 hC.2.1 hd hne (k V p l e R s m args below meth c H locs Gl ws tys lsC hC hR hN hH hS hu hv hL)
theorem r_f2d {x : UInt32} (hd : decode (i_cc I) pc = .ok (.f2d, 1)) (hne : vf_n64 (FP.f2d x)) (k : AW I (pc + 1) ls (.double (FP.f2d x) :: st) h uc us Q) : AW I pc ls (.float x :: st) h uc us Q := by
  intro V p l e R s m args below meth c H locs Gl ws tys lsC hC hR hN hH hS hu hv hL
  exact lv_f2d hC.1 hC.2.1 hd hne (k V p l e R s m args below meth c H locs Gl ws tys lsC hC hR hN hH hS hu hv hL)
theorem r_dcmp {x y : UInt64} {op : CmpOp} (hd : decode (i_cc I) pc = .ok (.dcmp op, 1)) (k : AW I (pc + 1) ls (.int (Op.cmpValue (FP.dcmp x y) op) :: st) h uc us Q) : AW I pc ls (.double y :: .double x :: st) h uc us Q := by
  intro V p l e R s m args below meth c H locs Gl ws tys lsC hC hR hN hH hS hu hv hL
  exact lv_dcmp hC.1 hC.2.1 hd (k V p l e R s m args below meth c H locs Gl ws tys lsC hC hR hN hH hS hu hv hL)
theorem r_fcmp {x y : UInt32} {op : CmpOp} (hd : decode (i_cc I) pc = .ok (.fcmp op, 1)) (k : AW I (pc + 1) ls (.int (Op.cmpValue (FP.fcmp x y) op) :: st) h uc us Q) : AW I pc ls (.float y :: .float x :: st) h uc us Q := by
  intro V p l e R s m args below meth c H locs Gl ws tys lsC hC hR hN hH hS hu hv hL
  exact lv_fcmp hC.1 hC.2.1 hd (k V p l e R s m args below meth c H locs Gl ws tys lsC hC hR hN hH hS hu hv hL)
theorem r_fconst0  (hd : decode (i_cc I) pc = .ok (.fconst 0, 1)) (k : AW I (pc + 1) ls (.float FP.fconst0 :: st) h uc us Q) : AW I pc ls (st) h uc us Q := by
  intro V p l e R s m args below meth c H locs Gl ws tys lsC hC hR hN hH hS hu hv hL
  exact lv_fconst0 hC.1 hC.2.1 hd (k V p l e R s m args below meth c H locs Gl ws tys lsC hC hR hN hH hS hu hv hL)
theorem r_iconst_m1 (hd : decode (i_cc I) pc = .ok (.iconst (-1), 1)) (k : AW I (pc + 1) ls (.int (-1) :: st) h uc us Q) : AW I pc ls st h uc us Q := by
  intro V p l e R s m args below meth c H locs Gl ws tys lsC hC hR hN hH hS hu hv hL
  exact lv_iconst hC.1 hC.2.1 hd (by decide) (k V p l e R s m args below meth c H locs Gl ws tys lsC hC hR hN hH hS hu hv hL)
theorem r_iconst_0 (hd : decode (i_cc I) pc = .ok (.iconst 0, 1)) (k : AW I (pc + 1) ls (.int 0 :: st) h uc us Q) : AW I pc ls st h uc us Q := by
  intro V p l e R s m args below meth c H locs Gl ws tys lsC hC hR hN hH hS hu hv hL
  exact lv_iconst hC.1 hC.2.1 hd (by decide) (k V p l e R s m args below meth c H locs Gl ws tys lsC hC hR hN hH hS hu hv hL)
theorem r_iconst_1 (hd : decode (i_cc I) pc = .ok (.iconst 1, 1)) (k : AW I (pc + 1) ls (.int 1 :: st) h uc us Q) : AW I pc ls st h uc us Q := by
  intro V p l e R s m args below meth c H locs Gl ws tys lsC hC hR hN hH hS hu hv hL
  exact lv_iconst hC.1 hC.2.1 hd (by decide) (k V p l e R s m args below meth c H locs Gl ws tys lsC hC hR hN hH hS hu hv hL)
theorem r_iconst_2 (hd : decode (i_cc I) pc = .ok (.iconst 2, 1)) (k : AW I (pc + 1) ls (.int 2 :: st) h uc us Q) : AW I pc ls st h uc us Q := by
  intro V p l e R s m args below meth c H locs Gl ws tys lsC hC hR hN hH hS hu hv hL
  exact lv_iconst hC.1 hC.2.1 hd (by decide) (k V p l e R s m args below meth c H locs Gl ws tys lsC hC hR hN hH hS hu hv hL)
theorem r_iconst_3 (hd : decode (i_cc I) pc = .ok (.iconst 3, 1)) (k : AW I (pc + 1) ls (.int 3 :: st) h uc us Q) : AW I pc ls st h uc us Q := by
  intro V p l e R s m args below meth c H locs Gl ws tys lsC hC hR hN hH hS hu hv hL
  exact lv_iconst hC.1 hC.2.1 hd (by decide) (k V p l e R s m args below meth c H locs Gl ws tys lsC hC hR hN hH hS hu hv hL)
theorem r_iconst_4 (hd : decode (i_cc I) pc = .ok (.iconst 4, 1)) (k : AW I (pc + 1) ls (.int 4 :: st) h uc us Q) : AW I pc ls st h uc us Q := by
  intro V p l e R s m args below meth c H locs Gl ws tys lsC hC hR hN hH hS hu hv hL
  exact lv_iconst hC.1 hC.2.1 hd (by decide) (k V p l e R s m args below meth c H locs Gl ws tys lsC hC hR hN hH hS hu hv hL)
theorem r_iconst_5 (hd : decode (i_cc I) pc = .ok (.iconst 5, 1)) (k : AW I (pc + 1) ls (.int 5 :: st) h uc us Q) : AW I pc ls st h uc us Q := by
  intro V p l e R s m args below meth c H locs Gl ws tys lsC hC hR hN hH hS hu hv hL
  exact lv_iconst hC.1 hC.2.1 hd (by decide) (k V p l e R s m args below meth c H locs Gl ws tys lsC hC hR hN hH hS hu hv hL)
theorem r_bipush {n : Int} (v : Int32) (hd : decode (i_cc I) pc = .ok (.bipush n, 2)) (hv : (Int8.ofInt n).toInt32 = v) (k : AW I (pc + 2) ls (.int v :: st) h uc us Q) : AW I pc ls st h uc us Q := by
  intro V p l e R s m args below meth c H locs Gl ws tys lsC hC hR hN hH hS hu hv9 hL
  exact lv_bipush hC.1 hC.2.1 hd hv (k V p l e R s m args below meth c H locs Gl ws tys lsC hC hR hN hH hS hu hv9 hL)
theorem r_sipush {n : Int} (v : Int32) (hd : decode (i_cc I) pc = .ok (.sipush n, 3)) (hv : (Int16.ofInt n).toInt32 = v) (k : AW I (pc + 3) ls (.int v :: st) h uc us Q) : AW I pc ls st h uc us Q := by
  intro V p l e R s m args below meth c H locs Gl ws tys lsC hC hR hN hH hS hu hv9 hL
  exact lv_sipush hC.1 hC.2.1 hd hv (k V p l e R s m args below meth c H locs Gl ws tys lsC hC hR hN hH hS hu hv9 hL)
theorem r_lconst_0 (hd : decode (i_cc I) pc = .ok (.lconst 0, 1)) (k : AW I (pc + 1) ls (.long 0 :: st) h uc us Q) : AW I pc ls st h uc us Q := by
  intro V p l e R s m args below meth c H locs Gl ws tys lsC hC hR hN hH hS hu hv hL
  exact lv_lconst hC.1 hC.2.1 hd (by decide) (k V p l e R s m args below meth c H locs Gl ws tys lsC hC hR hN hH hS hu hv hL)
theorem r_lconst_1 (hd : decode (i_cc I) pc = .ok (.lconst 1, 1)) (k : AW I (pc + 1) ls (.long 1 :: st) h uc us Q) : AW I pc ls st h uc us Q := by
  intro V p l e R s m args below meth c H locs Gl ws tys lsC hC hR hN hH hS hu hv hL
  exact lv_lconst hC.1 hC.2.1 hd (by decide) (k V p l e R s m args below meth c H locs Gl ws tys lsC hC hR hN hH hS hu hv hL)
theorem r_ldc {ix : Nat} (v : Int32) (hd : decode (i_cc I) pc = .ok (.ldc ix, 2)) (hw : Cond.constant (i_own I) ix v ∈ a_GT) (k : AW I (pc + 2) ls (.int v :: st) h uc us Q) : AW I pc ls st h uc us Q := by
  intro V p l e R s m args below meth c H locs Gl ws tys lsC hC hR hN hH hS hu hv hL
  exact lv_ldc hC.1 hC.2.1 hC.2.2.2.1 (hC.2.2.2.2.1 _ hw) hd (k V p l e R s m args below meth c H locs Gl ws tys lsC hC hR hN hH hS hu hv hL)
theorem r_ldc2 {ix : Nat} (v : Int64) (hd : decode (i_cc I) pc = .ok (.ldc2_w ix, 3)) (hw : Cond.constantLong (i_own I) ix v ∈ a_GT) (k : AW I (pc + 3) ls (.long v :: st) h uc us Q) : AW I pc ls st h uc us Q := by
  intro V p l e R s m args below meth c H locs Gl ws tys lsC hC hR hN hH hS hu hv hL
  exact lv_ldc2 hC.1 hC.2.1 hC.2.2.2.1 (hC.2.2.2.2.1 _ hw) hd (k V p l e R s m args below meth c H locs Gl ws tys lsC hC hR hN hH hS hu hv hL)
theorem r_iload {i : Nat} {x : Int32} (hd : decode (i_cc I) pc = .ok (.iload i, 2)) (hl : ls[i]? = some (.int x)) (k : AW I (pc + 2) ls (.int x :: st) h uc us Q) : AW I pc ls st h uc us Q := by
  intro V p l e R s m args below meth c H locs Gl ws tys lsC hC hR hN hH hS hu hv hL
  exact lv_iload hC.1 hC.2.1 hd (hL.2.2 _ _ hl (fun z => by cases z)) (k V p l e R s m args below meth c H locs Gl ws tys lsC hC hR hN hH hS hu hv hL)
theorem r_iload_n {i : Fin 4} {x : Int32} (hd : decode (i_cc I) pc = .ok (.iload_n i, 1)) (hl : ls[(i : Nat)]? = some (.int x)) (k : AW I (pc + 1) ls (.int x :: st) h uc us Q) : AW I pc ls st h uc us Q := by
  intro V p l e R s m args below meth c H locs Gl ws tys lsC hC hR hN hH hS hu hv hL
  exact lv_iload_n hC.1 hC.2.1 hd rfl (hL.2.2 _ _ hl (fun z => by cases z)) (k V p l e R s m args below meth c H locs Gl ws tys lsC hC hR hN hH hS hu hv hL)
theorem r_lload {i : Nat} {x : Int64} (hd : decode (i_cc I) pc = .ok (.lload i, 2)) (hl : ls[i]? = some (.long x)) (k : AW I (pc + 2) ls (.long x :: st) h uc us Q) : AW I pc ls st h uc us Q := by
  intro V p l e R s m args below meth c H locs Gl ws tys lsC hC hR hN hH hS hu hv hL
  exact lv_lload hC.1 hC.2.1 hd (hL.2.2 _ _ hl (fun z => by cases z)) (k V p l e R s m args below meth c H locs Gl ws tys lsC hC hR hN hH hS hu hv hL)
theorem r_lload_n {i : Fin 4} {x : Int64} (hd : decode (i_cc I) pc = .ok (.lload_n i, 1)) (hl : ls[(i : Nat)]? = some (.long x)) (k : AW I (pc + 1) ls (.long x :: st) h uc us Q) : AW I pc ls st h uc us Q := by
  intro V p l e R s m args below meth c H locs Gl ws tys lsC hC hR hN hH hS hu hv hL
  exact lv_lload_n hC.1 hC.2.1 hd rfl (hL.2.2 _ _ hl (fun z => by cases z)) (k V p l e R s m args below meth c H locs Gl ws tys lsC hC hR hN hH hS hu hv hL)
theorem r_fload {i : Nat} {x : UInt32} (hd : decode (i_cc I) pc = .ok (.fload i, 2)) (hl : ls[i]? = some (.float x)) (k : AW I (pc + 2) ls (.float x :: st) h uc us Q) : AW I pc ls st h uc us Q := by
  intro V p l e R s m args below meth c H locs Gl ws tys lsC hC hR hN hH hS hu hv hL
  exact lv_fload hC.1 hC.2.1 hd (hL.2.2 _ _ hl (fun z => by cases z)) (k V p l e R s m args below meth c H locs Gl ws tys lsC hC hR hN hH hS hu hv hL)
theorem r_fload_n {i : Fin 4} {x : UInt32} (hd : decode (i_cc I) pc = .ok (.fload_n i, 1)) (hl : ls[(i : Nat)]? = some (.float x)) (k : AW I (pc + 1) ls (.float x :: st) h uc us Q) : AW I pc ls st h uc us Q := by
  intro V p l e R s m args below meth c H locs Gl ws tys lsC hC hR hN hH hS hu hv hL
  exact lv_fload_n hC.1 hC.2.1 hd rfl (hL.2.2 _ _ hl (fun z => by cases z)) (k V p l e R s m args below meth c H locs Gl ws tys lsC hC hR hN hH hS hu hv hL)
theorem r_aload {i : Nat} {x : Nat} (hd : decode (i_cc I) pc = .ok (.aload i, 2)) (hl : ls[i]? = some (.ref x)) (k : AW I (pc + 2) ls (.ref x :: st) h uc us Q) : AW I pc ls st h uc us Q := by
  intro V p l e R s m args below meth c H locs Gl ws tys lsC hC hR hN hH hS hu hv hL
  exact lv_aload hC.1 hC.2.1 hd (hL.2.2 _ _ hl (fun z => by cases z)) (k V p l e R s m args below meth c H locs Gl ws tys lsC hC hR hN hH hS hu hv hL)
theorem r_aload_n {i : Fin 4} {x : Nat} (hd : decode (i_cc I) pc = .ok (.aload_n i, 1)) (hl : ls[(i : Nat)]? = some (.ref x)) (k : AW I (pc + 1) ls (.ref x :: st) h uc us Q) : AW I pc ls st h uc us Q := by
  intro V p l e R s m args below meth c H locs Gl ws tys lsC hC hR hN hH hS hu hv hL
  exact lv_aload_n hC.1 hC.2.1 hd rfl (hL.2.2 _ _ hl (fun z => by cases z)) (k V p l e R s m args below meth c H locs Gl ws tys lsC hC hR hN hH hS hu hv hL)
theorem r_istore {i : Nat} {x : Int32} (hd : decode (i_cc I) pc = .ok (.istore i, 2)) (hn : i < i_nL I) (hk : ∀ j w, ls[j]? = some w → j + 1 = i → w.category = 1) (k : AW I (pc + 2) (ls.set i (.int x)) st h uc us Q) : AW I pc ls (.int x :: st) h uc us Q := by
  intro V p l e R s m args below meth c H locs Gl ws tys lsC hC hR hN hH hS hu hv hL
  exact lv_istore hC.1 hC.2.1 hd hL.has hn rfl (fun ls2 h2 => k V p l e R s m args below meth c H locs Gl ws tys ls2 hC hR hN hH hS hu hv (a_L.st1 hk h2))
theorem r_istore_n {i : Fin 4} {x : Int32} (hd : decode (i_cc I) pc = .ok (.istore_n i, 1)) (hn : (i : Nat) < i_nL I) (hk : ∀ j w, ls[j]? = some w → j + 1 = (i : Nat) → w.category = 1) (k : AW I (pc + 1) (ls.set (i : Nat) (.int x)) st h uc us Q) : AW I pc ls (.int x :: st) h uc us Q := by
  intro V p l e R s m args below meth c H locs Gl ws tys lsC hC hR hN hH hS hu hv hL
  exact lv_istore_n hC.1 hC.2.1 hd rfl hL.has hn rfl (fun ls2 h2 => k V p l e R s m args below meth c H locs Gl ws tys ls2 hC hR hN hH hS hu hv (a_L.st1 hk h2))
theorem r_fstore {i : Nat} {x : UInt32} (hd : decode (i_cc I) pc = .ok (.fstore i, 2)) (hn : i < i_nL I) (hk : ∀ j w, ls[j]? = some w → j + 1 = i → w.category = 1) (k : AW I (pc + 2) (ls.set i (.float x)) st h uc us Q) : AW I pc ls (.float x :: st) h uc us Q := by
  intro V p l e R s m args below meth c H locs Gl ws tys lsC hC hR hN hH hS hu hv hL
  exact lv_fstore hC.1 hC.2.1 hd hL.has hn rfl (fun ls2 h2 => k V p l e R s m args below meth c H locs Gl ws tys ls2 hC hR hN hH hS hu hv (a_L.st1 hk h2))
theorem r_fstore_n {i : Fin 4} {x : UInt32} (hd : decode (i_cc I) pc = .ok (.fstore_n i, 1)) (hn : (i : Nat) < i_nL I) (hk : ∀ j w, ls[j]? = some w → j + 1 = (i : Nat) → w.category = 1) (k : AW I (pc + 1) (ls.set (i : Nat) (.float x)) st h uc us Q) : AW I pc ls (.float x :: st) h uc us Q := by
  intro V p l e R s m args below meth c H locs Gl ws tys lsC hC hR hN hH hS hu hv hL
  exact lv_fstore_n hC.1 hC.2.1 hd rfl hL.has hn rfl (fun ls2 h2 => k V p l e R s m args below meth c H locs Gl ws tys ls2 hC hR hN hH hS hu hv (a_L.st1 hk h2))
theorem r_astore {i : Nat} {x : Nat} (hd : decode (i_cc I) pc = .ok (.astore i, 2)) (hn : i < i_nL I) (hk : ∀ j w, ls[j]? = some w → j + 1 = i → w.category = 1) (k : AW I (pc + 2) (ls.set i (.ref x)) st h uc us Q) : AW I pc ls (.ref x :: st) h uc us Q := by
  intro V p l e R s m args below meth c H locs Gl ws tys lsC hC hR hN hH hS hu hv hL
  exact lv_astore hC.1 hC.2.1 hd hL.has hn rfl (fun ls2 h2 => k V p l e R s m args below meth c H locs Gl ws tys ls2 hC hR hN hH hS hu hv (a_L.st1 hk h2))
theorem r_astore_n {i : Fin 4} {x : Nat} (hd : decode (i_cc I) pc = .ok (.astore_n i, 1)) (hn : (i : Nat) < i_nL I) (hk : ∀ j w, ls[j]? = some w → j + 1 = (i : Nat) → w.category = 1) (k : AW I (pc + 1) (ls.set (i : Nat) (.ref x)) st h uc us Q) : AW I pc ls (.ref x :: st) h uc us Q := by
  intro V p l e R s m args below meth c H locs Gl ws tys lsC hC hR hN hH hS hu hv hL
  exact lv_astore_n hC.1 hC.2.1 hd rfl hL.has hn rfl (fun ls2 h2 => k V p l e R s m args below meth c H locs Gl ws tys ls2 hC hR hN hH hS hu hv (a_L.st1 hk h2))
theorem r_lstore {i : Nat} {x : Int64} (hd : decode (i_cc I) pc = .ok (.lstore i, 2)) (hn : i + 1 < i_nL I) (hk : ∀ j w, ls[j]? = some w → j + 1 = i → w.category = 1) (k : AW I (pc + 2) ((ls.set i (.long x)).set (i + 1) .null) st h uc us Q) : AW I pc ls (.long x :: st) h uc us Q := by
  intro V p l e R s m args below meth c H locs Gl ws tys lsC hC hR hN hH hS hu hv hL
  exact lv_lstore hC.1 hC.2.1 hd hL.has hn rfl (fun ls2 h2 => k V p l e R s m args below meth c H locs Gl ws tys ls2 hC hR hN hH hS hu hv (a_L.st2 hk h2))
theorem r_lstore_n {i : Fin 4} {x : Int64} (hd : decode (i_cc I) pc = .ok (.lstore_n i, 1)) (hn : (i : Nat) + 1 < i_nL I) (hk : ∀ j w, ls[j]? = some w → j + 1 = (i : Nat) → w.category = 1) (k : AW I (pc + 1) ((ls.set (i : Nat) (.long x)).set ((i : Nat) + 1) .null) st h uc us Q) : AW I pc ls (.long x :: st) h uc us Q := by
  intro V p l e R s m args below meth c H locs Gl ws tys lsC hC hR hN hH hS hu hv hL
  exact lv_lstore_n hC.1 hC.2.1 hd rfl hL.has hn rfl (fun ls2 h2 => k V p l e R s m args below meth c H locs Gl ws tys ls2 hC hR hN hH hS hu hv (a_L.st2 hk h2))
theorem r_iinc {i : Nat} {n : Int} {x : Int32} (v : Int32) (hd : decode (i_cc I) pc = .ok (.iinc i n, 3)) (hl : ls[i]? = some (.int x)) (hx : x + Int32.ofInt n = v) (hn : i < i_nL I) (hk : ∀ j w, ls[j]? = some w → j + 1 = i → w.category = 1) (k : AW I (pc + 3) (ls.set i (.int v)) st h uc us Q) : AW I pc ls st h uc us Q := by
  intro V p l e R s m args below meth c H locs Gl ws tys lsC hC hR hN hH hS hu hv hL
  have hm : (i, Value.int x) ∈ a_ll V ls := a_ll_mem.mpr ⟨_, hl, (fun z => by cases z), rfl⟩
  obtain ⟨k0, hk0⟩ := List.getElem?_of_mem hm
  exact lv_iinc hC.1 hC.2.1 hd hL.has (k := k0) hk0 hx hn rfl (fun ls2 h2 => k V p l e R s m args below meth c H locs Gl ws tys ls2 hC hR hN hH hS hu hv (a_L.st1 hk h2))
theorem r_dup {va : Value} (hd : decode (i_cc I) pc = .ok (.dup, 1)) (hva : va.category = 1) (k : AW I (pc + 1) ls (va :: va :: st) h uc us Q) : AW I pc ls (va :: st) h uc us Q := by
  intro V p l e R s m args below meth c H locs Gl ws tys lsC hC hR hN hH hS hu hv hL
  exact lv_dup hC.1 hC.2.1 hd (by rw [a_cv_cat]; exact hva) (k V p l e R s m args below meth c H locs Gl ws tys lsC hC hR hN hH hS hu hv hL)
theorem r_dup2 {va vb : Value} (hd : decode (i_cc I) pc = .ok (.dup2, 1)) (hva : va.category = 1) (hvb : vb.category = 1) (k : AW I (pc + 1) ls (va :: vb :: va :: vb :: st) h uc us Q) : AW I pc ls (va :: vb :: st) h uc us Q := by
  intro V p l e R s m args below meth c H locs Gl ws tys lsC hC hR hN hH hS hu hv hL
  exact lv_dup2_11 hC.1 hC.2.1 hd (by rw [a_cv_cat]; exact hva) (by rw [a_cv_cat]; exact hvb) (k V p l e R s m args below meth c H locs Gl ws tys lsC hC hR hN hH hS hu hv hL)
theorem r_pop {va : Value} (hd : decode (i_cc I) pc = .ok (.pop, 1)) (hva : va.category = 1) (k : AW I (pc + 1) ls st h uc us Q) : AW I pc ls (va :: st) h uc us Q := by
  intro V p l e R s m args below meth c H locs Gl ws tys lsC hC hR hN hH hS hu hv hL
  exact lv_pop hC.1 hC.2.1 hd (by rw [a_cv_cat]; exact hva) (k V p l e R s m args below meth c H locs Gl ws tys lsC hC hR hN hH hS hu hv hL)
theorem r_lcmp {x y : Int64} (hd : decode (i_cc I) pc = .ok (.lcmp, 1)) (k : AW I (pc + 1) ls (.int (lg_cmp x y) :: st) h uc us Q) : AW I pc ls (.long y :: .long x :: st) h uc us Q := by
  intro V p l e R s m args below meth c H locs Gl ws tys lsC hC hR hN hH hS hu hv hL
  exact W.lcmp hC.1 hC.2.1 hd (k V p l e R s m args below meth c H locs Gl ws tys lsC hC hR hN hH hS hu hv hL)
theorem r_if_eq {x : Int32} {off : Int} (tgt : Nat) (hd : decode (i_cc I) pc = .ok (.ifCond .eq off, 3)) (ht : (pc : Int) + off = (tgt : Int)) (kt : x = 0 → AW I tgt ls st h uc us Q) (kf : ¬ x = 0 → AW I (pc + 3) ls st h uc us Q) : AW I pc ls (.int x :: st) h uc us Q := by
  intro V p l e R s m args below meth c H locs Gl ws tys lsC hC hR hN hH hS hu hv hL
  exact lv_if_eq hC.1 hC.2.1 hd ht (fun z => kt z V p l e R s m args below meth c H locs Gl ws tys lsC hC hR hN hH hS hu hv hL) (fun z => kf z V p l e R s m args below meth c H locs Gl ws tys lsC hC hR hN hH hS hu hv hL)
theorem r_icmp_eq {x y : Int32} {off : Int} (tgt : Nat) (hd : decode (i_cc I) pc = .ok (.if_icmp .eq off, 3)) (ht : (pc : Int) + off = (tgt : Int)) (kt : x = y → AW I tgt ls st h uc us Q) (kf : ¬ x = y → AW I (pc + 3) ls st h uc us Q) : AW I pc ls (.int y :: .int x :: st) h uc us Q := by
  intro V p l e R s m args below meth c H locs Gl ws tys lsC hC hR hN hH hS hu hv hL
  exact lv_icmp_eq hC.1 hC.2.1 hd ht (fun z => kt z V p l e R s m args below meth c H locs Gl ws tys lsC hC hR hN hH hS hu hv hL) (fun z => kf z V p l e R s m args below meth c H locs Gl ws tys lsC hC hR hN hH hS hu hv hL)
theorem r_if_ne {x : Int32} {off : Int} (tgt : Nat) (hd : decode (i_cc I) pc = .ok (.ifCond .ne off, 3)) (ht : (pc : Int) + off = (tgt : Int)) (kt : ¬ x = 0 → AW I tgt ls st h uc us Q) (kf : x = 0 → AW I (pc + 3) ls st h uc us Q) : AW I pc ls (.int x :: st) h uc us Q := by
  intro V p l e R s m args below meth c H locs Gl ws tys lsC hC hR hN hH hS hu hv hL
  exact lv_if_ne hC.1 hC.2.1 hd ht (fun z => kt z V p l e R s m args below meth c H locs Gl ws tys lsC hC hR hN hH hS hu hv hL) (fun z => kf z V p l e R s m args below meth c H locs Gl ws tys lsC hC hR hN hH hS hu hv hL)
theorem r_icmp_ne {x y : Int32} {off : Int} (tgt : Nat) (hd : decode (i_cc I) pc = .ok (.if_icmp .ne off, 3)) (ht : (pc : Int) + off = (tgt : Int)) (kt : ¬ x = y → AW I tgt ls st h uc us Q) (kf : x = y → AW I (pc + 3) ls st h uc us Q) : AW I pc ls (.int y :: .int x :: st) h uc us Q := by
  intro V p l e R s m args below meth c H locs Gl ws tys lsC hC hR hN hH hS hu hv hL
  exact lv_icmp_ne hC.1 hC.2.1 hd ht (fun z => kt z V p l e R s m args below meth c H locs Gl ws tys lsC hC hR hN hH hS hu hv hL) (fun z => kf z V p l e R s m args below meth c H locs Gl ws tys lsC hC hR hN hH hS hu hv hL)
theorem r_if_lt {x : Int32} {off : Int} (tgt : Nat) (hd : decode (i_cc I) pc = .ok (.ifCond .lt off, 3)) (ht : (pc : Int) + off = (tgt : Int)) (kt : x < 0 → AW I tgt ls st h uc us Q) (kf : ¬ x < 0 → AW I (pc + 3) ls st h uc us Q) : AW I pc ls (.int x :: st) h uc us Q := by
  intro V p l e R s m args below meth c H locs Gl ws tys lsC hC hR hN hH hS hu hv hL
  exact lv_if_lt hC.1 hC.2.1 hd ht (fun z => kt z V p l e R s m args below meth c H locs Gl ws tys lsC hC hR hN hH hS hu hv hL) (fun z => kf z V p l e R s m args below meth c H locs Gl ws tys lsC hC hR hN hH hS hu hv hL)
theorem r_icmp_lt {x y : Int32} {off : Int} (tgt : Nat) (hd : decode (i_cc I) pc = .ok (.if_icmp .lt off, 3)) (ht : (pc : Int) + off = (tgt : Int)) (kt : x < y → AW I tgt ls st h uc us Q) (kf : ¬ x < y → AW I (pc + 3) ls st h uc us Q) : AW I pc ls (.int y :: .int x :: st) h uc us Q := by
  intro V p l e R s m args below meth c H locs Gl ws tys lsC hC hR hN hH hS hu hv hL
  exact lv_icmp_lt hC.1 hC.2.1 hd ht (fun z => kt z V p l e R s m args below meth c H locs Gl ws tys lsC hC hR hN hH hS hu hv hL) (fun z => kf z V p l e R s m args below meth c H locs Gl ws tys lsC hC hR hN hH hS hu hv hL)
theorem r_if_ge {x : Int32} {off : Int} (tgt : Nat) (hd : decode (i_cc I) pc = .ok (.ifCond .ge off, 3)) (ht : (pc : Int) + off = (tgt : Int)) (kt : 0 ≤ x → AW I tgt ls st h uc us Q) (kf : ¬ 0 ≤ x → AW I (pc + 3) ls st h uc us Q) : AW I pc ls (.int x :: st) h uc us Q := by
  intro V p l e R s m args below meth c H locs Gl ws tys lsC hC hR hN hH hS hu hv hL
  exact lv_if_ge hC.1 hC.2.1 hd ht (fun z => kt z V p l e R s m args below meth c H locs Gl ws tys lsC hC hR hN hH hS hu hv hL) (fun z => kf z V p l e R s m args below meth c H locs Gl ws tys lsC hC hR hN hH hS hu hv hL)
theorem r_icmp_ge {x y : Int32} {off : Int} (tgt : Nat) (hd : decode (i_cc I) pc = .ok (.if_icmp .ge off, 3)) (ht : (pc : Int) + off = (tgt : Int)) (kt : y ≤ x → AW I tgt ls st h uc us Q) (kf : ¬ y ≤ x → AW I (pc + 3) ls st h uc us Q) : AW I pc ls (.int y :: .int x :: st) h uc us Q := by
  intro V p l e R s m args below meth c H locs Gl ws tys lsC hC hR hN hH hS hu hv hL
  exact lv_icmp_ge hC.1 hC.2.1 hd ht (fun z => kt z V p l e R s m args below meth c H locs Gl ws tys lsC hC hR hN hH hS hu hv hL) (fun z => kf z V p l e R s m args below meth c H locs Gl ws tys lsC hC hR hN hH hS hu hv hL)
theorem r_if_gt {x : Int32} {off : Int} (tgt : Nat) (hd : decode (i_cc I) pc = .ok (.ifCond .gt off, 3)) (ht : (pc : Int) + off = (tgt : Int)) (kt : 0 < x → AW I tgt ls st h uc us Q) (kf : ¬ 0 < x → AW I (pc + 3) ls st h uc us Q) : AW I pc ls (.int x :: st) h uc us Q := by
  intro V p l e R s m args below meth c H locs Gl ws tys lsC hC hR hN hH hS hu hv hL
  exact lv_if_gt hC.1 hC.2.1 hd ht (fun z => kt z V p l e R s m args below meth c H locs Gl ws tys lsC hC hR hN hH hS hu hv hL) (fun z => kf z V p l e R s m args below meth c H locs Gl ws tys lsC hC hR hN hH hS hu hv hL)
theorem r_icmp_gt {x y : Int32} {off : Int} (tgt : Nat) (hd : decode (i_cc I) pc = .ok (.if_icmp .gt off, 3)) (ht : (pc : Int) + off = (tgt : Int)) (kt : y < x → AW I tgt ls st h uc us Q) (kf : ¬ y < x → AW I (pc + 3) ls st h uc us Q) : AW I pc ls (.int y :: .int x :: st) h uc us Q := by
  intro V p l e R s m args below meth c H locs Gl ws tys lsC hC hR hN hH hS hu hv hL
  exact lv_icmp_gt hC.1 hC.2.1 hd ht (fun z => kt z V p l e R s m args below meth c H locs Gl ws tys lsC hC hR hN hH hS hu hv hL) (fun z => kf z V p l e R s m args below meth c H locs Gl ws tys lsC hC hR hN hH hS hu hv hL)
theorem r_if_le {x : Int32} {off : Int} (tgt : Nat) (hd : decode (i_cc I) pc = .ok (.ifCond .le off, 3)) (ht : (pc : Int) + off = (tgt : Int)) (kt : x ≤ 0 → AW I tgt ls st h uc us Q) (kf : ¬ x ≤ 0 → AW I (pc + 3) ls st h uc us Q) : AW I pc ls (.int x :: st) h uc us Q := by
  intro V p l e R s m args below meth c H locs Gl ws tys lsC hC hR hN hH hS hu hv hL
  exact lv_if_le hC.1 hC.2.1 hd ht (fun z => kt z V p l e R s m args below meth c H locs Gl ws tys lsC hC hR hN hH hS hu hv hL) (fun z => kf z V p l e R s m args below meth c H locs Gl ws tys lsC hC hR hN hH hS hu hv hL)
theorem r_icmp_le {x y : Int32} {off : Int} (tgt : Nat) (hd : decode (i_cc I) pc = .ok (.if_icmp .le off, 3)) (ht : (pc : Int) + off = (tgt : Int)) (kt : x ≤ y → AW I tgt ls st h uc us Q) (kf : ¬ x ≤ y → AW I (pc + 3) ls st h uc us Q) : AW I pc ls (.int y :: .int x :: st) h uc us Q := by
  intro V p l e R s m args below meth c H locs Gl ws tys lsC hC hR hN hH hS hu hv hL
  exact lv_icmp_le hC.1 hC.2.1 hd ht (fun z => kt z V p l e R s m args below meth c H locs Gl ws tys lsC hC hR hN hH hS hu hv hL) (fun z => kf z V p l e R s m args below meth c H locs Gl ws tys lsC hC hR hN hH hS hu hv hL)
theorem r_goto {off : Int} (tgt : Nat) (hd : decode (i_cc I) pc = .ok (.goto off, 3)) (ht : (pc : Int) + off = (tgt : Int)) (k : AW I tgt ls st h uc us Q) : AW I pc ls st h uc us Q := by
  intro V p l e R s m args below meth c H locs Gl ws tys lsC hC hR hN hH hS hu hv hL
  exact lv_goto hC.1 hC.2.1 hd ht (k V p l e R s m args below meth c H locs Gl ws tys lsC hC hR hN hH hS hu hv hL)
theorem r_swOut {dflt lo hi : Int} {offs : Array Int} {len : Nat} {x : Int32} (tgt : Nat) (hd : decode (i_cc I) pc = .ok (.tableswitch dflt lo hi offs, len)) (hx : x.toInt < lo ∨ hi < x.toInt) (ht : (pc : Int) + dflt = (tgt : Int)) (k : AW I tgt ls st h uc us Q) : AW I pc ls (.int x :: st) h uc us Q := by
  intro V p l e R s m args below meth c H locs Gl ws tys lsC hC hR hN hH hS hu hv hL
  exact lv_tableOut hC.1 hC.2.1 hd hx ht (k V p l e R s m args below meth c H locs Gl ws tys lsC hC hR hN hH hS hu hv hL)
theorem r_swIn {dflt lo hi : Int} {offs : Array Int} {len : Nat} {x : Int32} {off : Int} (tgt : Nat) (hd : decode (i_cc I) pc = .ok (.tableswitch dflt lo hi offs, len)) (h1 : ¬ x.toInt < lo) (h2 : ¬ hi < x.toInt) (ho : offs[(x.toInt - lo).toNat]? = some off) (ht : (pc : Int) + off = (tgt : Int)) (k : AW I tgt ls st h uc us Q) : AW I pc ls (.int x :: st) h uc us Q := by
  intro V p l e R s m args below meth c H locs Gl ws tys lsC hC hR hN hH hS hu hv hL
  exact lv_tableIn hC.1 hC.2.1 hd h1 h2 ho ht (k V p l e R s m args below meth c H locs Gl ws tys lsC hC hR hN hH hS hu hv hL)
end AR
end
section
/-- a field's link: of the method's class, at this entry: field k of class ci -/
def a_FL (own : String) (ix ci k : Nat) : Prop :=
  ∃ r : vw_C, a_cls[ci]? = some r ∧ k < r.2.2 ∧ Cond.fieldLink own ix r.1 (r.2.1 k).2.1 (r.2.1 k).2.2.1 ∈ a_GT ∧ (∀ w ∈ u_ws r.1 r.2.1 r.2.2, w ∈ a_GT) ∧ (r.2.1 k).1 = r.1
/-- what a class's table has to say: the descriptors' types, the names apart -/
def a_tyf (ci : Nat) : Nat → FieldType := match ci with
  | 0 => tyX0
  | 1 => tyX1
  | 2 => tyX2
  | 3 => tyX3
  | 4 => tyX4
  | 5 => tyX5
  | 6 => tyX6
  | 7 => tyX7
  | 8 => tyX8
  | 9 => tyX9
  | _ => tyX10
theorem a_cls_ok : ∀ (ci : Nat) (r : vw_C), a_cls[ci]? = some r → (∀ k, k < r.2.2 → parseFieldDescriptor (r.2.1 k).2.2.1 = some (a_tyf ci k)) ∧ (∀ a, a < r.2.2 → ∀ b, b < r.2.2 → a ≠ b → (r.2.1 a).2.1 ≠ (r.2.1 b).2.1) := by
  intro ci r h
  match ci, h with
  | 0, h => cases h; exact ⟨tyX0_ok, nmX0⟩
  | 1, h => cases h; exact ⟨tyX1_ok, nmX1⟩
  | 2, h => cases h; exact ⟨tyX2_ok, nmX2⟩
  | 3, h => cases h; exact ⟨tyX3_ok, nmX3⟩
  | 4, h => cases h; exact ⟨tyX4_ok, nmX4⟩
  | 5, h => cases h; exact ⟨tyX5_ok, nmX5⟩
  | 6, h => cases h; exact ⟨tyX6_ok, nmX6⟩
  | 7, h => cases h; exact ⟨tyX7_ok, nmX7⟩
  | 8, h => cases h; exact ⟨tyX8_ok, nmX8⟩
  | 9, h => cases h; exact ⟨tyX9_ok, nmX9⟩
  | 10, h => cases h; exact ⟨tyX10_ok, nmX10⟩
  | n + 11, h => simp [a_cls] at h
theorem a_C.adAt {V : a_V} {h : List a_E} {ws : va_W} {tys : List (ClassId × FieldType)} (hC : a_C V h ws tys) {c : Nat} (hc : c < h.length) : ∃ e, ws[c]? = some (a_ad V c, e) := by
  have h1 := hC.2 c h[c] (List.getElem?_eq_getElem hc)
  revert h1
  cases h[c] with
  | inr o => exact fun h1 => ⟨_, h1⟩
  | inl a => exact fun h1 => by obtain ⟨cA, t0, e1, -⟩ := h1; exact ⟨_, e1⟩
theorem a_new {V : a_V} {h : List a_E} {ws : va_W} {tys : List (ClassId × FieldType)} {q : Nat} {e : va_E} (hC : a_C V h ws tys) (hl : h.length < 5000) (hD : va_D (a_A V) (ws ++ [(q, e)])) (hq : q < V.2.1 + h.length + 1) : q = a_ad V h.length := by
  have hlast : (ws ++ [(q, e)])[ws.length]? = some (q, e) := by rw [List.getElem?_append_right (Nat.le_refl _), Nat.sub_self]; rfl
  have h1 : V.2.1 ≤ q := hD.2 _ _ hlast
  have h2 : a_ad V h.length = V.2.1 + h.length := if_pos hl
  rw [h2]
  by_cases hlt : q < V.2.1 + h.length
  · obtain ⟨e2, he2⟩ := hC.adAt (c := q - V.2.1) (by omega)
    have h3 : a_ad V (q - V.2.1) = q := by
      rw [show a_ad V (q - V.2.1) = V.2.1 + (q - V.2.1) from if_pos (by omega)]
      omega
    rw [h3] at he2
    have hlw := (List.getElem?_eq_some_iff.mp he2).1
    have h4 := hD.1 (q - V.2.1) ws.length (q, e2) (q, e) (by rw [List.getElem?_append_left hlw]; exact he2) hlast rfl
    omega
  · omega
section AH
variable {I : a_I} {pc uc us : Nat} {ls st : List Value} {h : a_H} {Q : a_Q}
theorem r_get {ix c : Nat} (ci k : Nat) {vs : List Value} {v : Value} (hd : decode (i_cc I) pc = .ok (.getfield ix, 3)) (hf : a_FL (i_own I) ix ci k) (hh : h.2[c]? = some (.inr (ci, vs))) (hv : vs[k]? = some v) (kk : AW I (pc + 3) ls (v :: st) h uc us Q) : AW I pc ls (.ref c :: st) h uc us Q := by
  intro V p l e R s m args below meth c9 H locs Gl ws tys lsC hC hR hN hH hS hu hv2 hL
  obtain ⟨r, hr, hk, hw, hin, hre⟩ := hf
  refine va_get (C := r.1) (T := r.2.1) (N := r.2.2) (ref := r.1) hC.1 hC.2.1 hC.2.2.2.2.1 hin hC.2.2.2.1 hH.2.2.2 hH.2.1 _ (hH.1.objAt hh) hr k hk (hC.2.2.2.2.1 _ hw) (fun x hx => by rw [← hre]; exact hx) (v := a_cv V v) (by rw [List.getElem?_map, hv]; rfl) hd ?_
  exact kk V p l e R s m args below meth c9 H locs Gl ws tys lsC hC hR hN hH hS hu hv2 hL
/-- an int field -/
theorem r_put {ix c : Nat} (ci k : Nat) {vs : List Value} {x : Int32} (hd : decode (i_cc I) pc = .ok (.putfield ix, 3)) (hf : a_FL (i_own I) ix ci k) (hfin : ∀ r, a_cls[ci]? = some r → (r.2.1 k).2.2 = ("I", false)) (hh : h.2[c]? = some (.inr (ci, vs))) (hl : k < vs.length)
    (kk : AW I (pc + 3) ls st (h.1, h.2.set c (.inr (ci, vs.set k (.int x)))) uc us Q) : AW I pc ls (.int x :: .ref c :: st) h uc us Q := by
  intro V p l e R s m args below meth c9 H locs Gl ws tys lsC hC hR hN hH hS hu hv2 hL
  obtain ⟨r, hr, hk, hw, hin, hre⟩ := hf
  have hfr := hfin r hr
  have hok := a_cls_ok ci r hr
  refine va_put (C := r.1) (T := r.2.1) (N := r.2.2) (ref := r.1) hC.1 hC.2.1 hC.2.2.2.2.1 hin (a_tyf ci) hok.1 hok.2 hC.2.2.2.1 hH.2.2.2 hH.2.1 hH.2.2.1 hS c (hH.1.objAt hh) hr k hk (hC.2.2.2.2.1 _ hw) (fun y hy => by rw [← hre]; exact hy) (by rw [hfr]) (ty := .int) (v := .int x) (by rw [hfr]; decide +kernel) rfl rfl (by simpa using hl) hd (fun H1 locs1 hP hD hS1 => ?_)
  have e1 : (vs.map (a_cv V)).set k (.int x) = (vs.set k (.int x)).map (a_cv V) := by rw [List.map_set]; rfl
  rw [e1] at hP hD
  exact kk V p l e R s m args below meth c9 H1 locs1 Gl _ tys lsC hC hR (fun z => by rw [List.length_set]; exact hN z) ⟨hH.1.setO hh _, hP, hD, hH.2.2.2⟩ hS1 hu hv2 hL
/-- a final field that holds a reference, in the constructor -/
theorem r_putF {ix c b : Nat} (ci k : Nat) {vs : List Value} (hd : decode (i_cc I) pc = .ok (.putfield ix, 3)) (hf : a_FL (i_own I) ix ci k) (hini : i_ini I = true) (hfin : ∀ r, a_cls[ci]? = some r → (r.2.1 k).2.2.2 = true ∧ r.1 = i_own I) (hfit : ∀ a : Nat, narrow (a_tyf ci k) (.ref a) = .ref a ∧ fits (a_tyf ci k) (.ref a) = true) (hh : h.2[c]? = some (.inr (ci, vs))) (hl : k < vs.length)
    (kk : AW I (pc + 3) ls st (h.1, h.2.set c (.inr (ci, vs.set k (.ref b)))) uc us Q) : AW I pc ls (.ref b :: .ref c :: st) h uc us Q := by
  intro V p l e R s m args below meth c9 H locs Gl ws tys lsC hC hR hN hH hS hu hv2 hL
  obtain ⟨r, hr, hk, hw, hin, hre⟩ := hf
  obtain ⟨hfr, hro⟩ := hfin r hr
  have hok := a_cls_ok ci r hr
  refine va_putF (C := r.1) (T := r.2.1) (N := r.2.2) (ref := r.1) hC.1 hC.2.1 hC.2.2.2.2.1 hin (a_tyf ci) hok.1 hok.2 hC.2.2.2.1 hH.2.2.2 hH.2.1 hH.2.2.1 hS c (hH.1.objAt hh) hr k hk (hC.2.2.2.2.1 _ hw) (fun y hy => by rw [← hre]; exact hy) hfr (hC.2.2.2.2.2.2.2.2.2.1 hini) (by rw [hre]; exact hro) (v := a_cv V (.ref b)) (hok.1 k hk) (hfit _).1 (hfit _).2 (by simpa using hl) hd (fun H1 locs1 hP hD hS1 => ?_)
  rw [← List.map_set] at hP hD
  exact kk V p l e R s m args below meth c9 H1 locs1 Gl _ tys lsC hC hR (fun z => by rw [List.length_set]; exact hN z) ⟨hH.1.setO hh _, hP, hD, hH.2.2.2⟩ hS1 hu hv2 hL
theorem r_new {ix : Nat} (ci : Nat) {hl : List a_E} (fs : List Value) {r : vw_C} (hd : decode (i_cc I) pc = .ok (.new ix, 3)) (hr : a_cls[ci]? = some r) (hw1 : Cond.classLink (i_own I) ix r.1 ∈ a_GT) (hw2 : Cond.instantiable r.1 r.2.2 ∈ a_GT) (hw3 : Cond.initialized r.1 ∈ a_GT) (hin : ∀ w ∈ u_ws r.1 r.2.1 r.2.2, w ∈ a_GT)
    (hfs : ∀ j, j < r.2.2 → defaultValue (a_tyf ci j) = vp_V fs j) (hfc : ∀ V : a_V, fs.map (a_cv V) = fs) (hln : hl.length < 4999) (hu1 : uc + 1 ≤ i_mc I) (hv1 : us + r.2.2 ≤ i_ms I)
    (kk : AW I (pc + 3) ls (.ref hl.length :: st) (true, hl ++ [.inr (ci, fs)]) (uc + 1) (us + r.2.2) Q) : AW I pc ls st (true, hl) uc us Q := by
  intro V p l e R s m args below meth c9 H locs Gl ws tys lsC hC hR hN hH hS hu hv2 hL
  have hok := a_cls_ok ci r hr
  have hroom := hC.2.2.2.2.2.2.2.1
  have hB := hC.2.2.2.2.2.2.2.2.2.2.2.1
  have hN1 := (hN rfl).1
  refine va_new (C := r.1) (T := r.2.1) (N := r.2.2) hC.1 hC.2.1 hC.2.2.2.2.1 hin (a_tyf ci) hok.1 hC.2.2.2.1 (hC.2.2.2.2.1 _ hw1) (hC.2.2.2.2.1 _ hw2) (hC.2.2.2.2.1 _ hw3) hH.2.2.2 hH.2.1 hH.2.2.1 hS (fun q hq => by unfold a_A; omega) hr hfs (by rw [hroom.2.2.1]; exact hu1) (by rw [hroom.2.2.2]; exact hv1) hd (fun q H1 hP hD hS1 => ?_)
  intro T hT X
  have hz := X.heapSize
  have hq : q < H1.size := (hP ws.length (q, .inr (ci, fs)) (by rw [List.getElem?_append_right (Nat.le_refl _), Nat.sub_self]; rfl)).lt
  have hqa : q = a_ad V hl.length := a_new (h := hl) hH.1 (by omega) hD (by rw [hT] at hz; dsimp only at hN1; omega)
  subst hqa
  have hC2 := hH.1.pushO ci fs
  rw [hfc V] at hC2
  exact kk V p l e R s m args below meth c9 H1 locs Gl _ tys lsC hC hR (fun z => by dsimp only at hN1 ⊢; rw [List.length_append]; show _ = _ + (_ + 1) ∧ _ + 1 ≤ 5000; omega) ⟨hC2, hP, hD, hH.2.2.2⟩ hS1 hu1 hv1 hL T hT X
end AH
end
section
theorem a_defi (ty : FieldType) (t : Nat) (cA : ClassId) : True := trivial
section AH2
variable {I : a_I} {pc uc us : Nat} {ls st : List Value} {h : a_H} {Q : a_Q}
theorem r_iald {c n : Nat} {f : Nat → Int32} {i : Int32} (hd : decode (i_cc I) pc = .ok (.iaload, 1)) (hh : h.2[c]? = some (.inl (0, n, .inl f))) (hin : vp_in i n) (kk : AW I (pc + 1) ls (.int (f i.toNatClampNeg) :: st) h uc us Q) : AW I pc ls (.int i :: .ref c :: st) h uc us Q := by
  intro V p l e R s m args below meth c9 H locs Gl ws tys lsC hC hR hN hH hS hu hv2 hL
  obtain ⟨cA, t0, e1, e2⟩ := hH.1.arrAt hh
  exact va_iald hC.1 hC.2.1 hH.2.2.2 hH.2.1 c t0 e1 e2 hin hd (kk V p l e R s m args below meth c9 H locs Gl ws tys lsC hC hR hN hH hS hu hv2 hL)
theorem r_iast {c n : Nat} {f : Nat → Int32} {i : Int32} {x : Int32} (hd : decode (i_cc I) pc = .ok (.iastore, 1)) (hh : h.2[c]? = some (.inl (0, n, .inl f))) (hin : vp_in i n) (kk : AW I (pc + 1) ls st (h.1, h.2.set c (.inl (0, n, .inl (upd f i.toNatClampNeg x)))) uc us Q) : AW I pc ls (.int x :: .int i :: .ref c :: st) h uc us Q := by
  intro V p l e R s m args below meth c9 H locs Gl ws tys lsC hC hR hN hH hS hu hv2 hL
  obtain ⟨cA, t0, e1, e2⟩ := hH.1.arrAt hh
  refine va_iast hC.1 hC.2.1 hH.2.2.2 hH.2.1 hH.2.2.1 hS c t0 e1 e2 hin hd (fun H1 locs1 hP hD hS1 => ?_)
  exact kk V p l e R s m args below meth c9 H1 locs1 Gl _ tys lsC hC hR (fun z => by rw [List.length_set]; exact hN z) ⟨hH.1.setA hh e2 _, hP, hD, hH.2.2.2⟩ hS1 hu hv2 hL
theorem r_bald {c n : Nat} {f : Nat → Int32} {i : Int32} (hd : decode (i_cc I) pc = .ok (.baload, 1)) (hh : h.2[c]? = some (.inl (1, n, .inl f))) (hin : vp_in i n) (kk : AW I (pc + 1) ls (.int (f i.toNatClampNeg) :: st) h uc us Q) : AW I pc ls (.int i :: .ref c :: st) h uc us Q := by
  intro V p l e R s m args below meth c9 H locs Gl ws tys lsC hC hR hN hH hS hu hv2 hL
  obtain ⟨cA, t0, e1, e2⟩ := hH.1.arrAt hh
  exact va_bald hC.1 hC.2.1 hH.2.2.2 hH.2.1 c t0 e1 e2 hin hd (kk V p l e R s m args below meth c9 H locs Gl ws tys lsC hC hR hN hH hS hu hv2 hL)
theorem r_bast {c n : Nat} {f : Nat → Int32} {i : Int32} {x : Int32} (hd : decode (i_cc I) pc = .ok (.bastore, 1)) (hh : h.2[c]? = some (.inl (1, n, .inl f))) (hin : vp_in i n) (kk : AW I (pc + 1) ls st (h.1, h.2.set c (.inl (1, n, .inl (upd f i.toNatClampNeg (vp_nar .byte x))))) uc us Q) : AW I pc ls (.int x :: .int i :: .ref c :: st) h uc us Q := by
  intro V p l e R s m args below meth c9 H locs Gl ws tys lsC hC hR hN hH hS hu hv2 hL
  obtain ⟨cA, t0, e1, e2⟩ := hH.1.arrAt hh
  refine va_bast hC.1 hC.2.1 hH.2.2.2 hH.2.1 hH.2.2.1 hS c t0 e1 e2 hin hd (fun H1 locs1 hP hD hS1 => ?_)
  exact kk V p l e R s m args below meth c9 H1 locs1 Gl _ tys lsC hC hR (fun z => by rw [List.length_set]; exact hN z) ⟨hH.1.setA hh e2 _, hP, hD, hH.2.2.2⟩ hS1 hu hv2 hL
theorem r_lald {c n : Nat} {f : Nat → Int64} {i : Int32} (hd : decode (i_cc I) pc = .ok (.laload, 1)) (hh : h.2[c]? = some (.inl (2, n, .inr (.inl f)))) (hin : vp_in i n) (kk : AW I (pc + 1) ls (.long (f i.toNatClampNeg) :: st) h uc us Q) : AW I pc ls (.int i :: .ref c :: st) h uc us Q := by
  intro V p l e R s m args below meth c9 H locs Gl ws tys lsC hC hR hN hH hS hu hv2 hL
  obtain ⟨cA, t0, e1, e2⟩ := hH.1.arrAt hh
  exact va_lald hC.1 hC.2.1 hH.2.2.2 hH.2.1 c t0 e1 e2 hin hd (kk V p l e R s m args below meth c9 H locs Gl ws tys lsC hC hR hN hH hS hu hv2 hL)
theorem r_last {c n : Nat} {f : Nat → Int64} {i : Int32} {x : Int64} (hd : decode (i_cc I) pc = .ok (.lastore, 1)) (hh : h.2[c]? = some (.inl (2, n, .inr (.inl f)))) (hin : vp_in i n) (kk : AW I (pc + 1) ls st (h.1, h.2.set c (.inl (2, n, .inr (.inl (vp_updL f i.toNatClampNeg (x)))))) uc us Q) : AW I pc ls (.long x :: .int i :: .ref c :: st) h uc us Q := by
  intro V p l e R s m args below meth c9 H locs Gl ws tys lsC hC hR hN hH hS hu hv2 hL
  obtain ⟨cA, t0, e1, e2⟩ := hH.1.arrAt hh
  refine va_last hC.1 hC.2.1 hH.2.2.2 hH.2.1 hH.2.2.1 hS c t0 e1 e2 hin hd (fun H1 locs1 hP hD hS1 => ?_)
  exact kk V p l e R s m args below meth c9 H1 locs1 Gl _ tys lsC hC hR (fun z => by rw [List.length_set]; exact hN z) ⟨hH.1.setA hh e2 _, hP, hD, hH.2.2.2⟩ hS1 hu hv2 hL
theorem r_dald {c n : Nat} {f : Nat → UInt64} {i : Int32} (hd : decode (i_cc I) pc = .ok (.daload, 1)) (hh : h.2[c]? = some (.inl (3, n, .inr (.inr (.inr (.inl f)))))) (hin : vp_in i n) (kk : AW I (pc + 1) ls (.double (f i.toNatClampNeg) :: st) h uc us Q) : AW I pc ls (.int i :: .ref c :: st) h uc us Q := by
  intro V p l e R s m args below meth c9 H locs Gl ws tys lsC hC hR hN hH hS hu hv2 hL
  obtain ⟨cA, t0, e1, e2⟩ := hH.1.arrAt hh
  exact va_dald hC.1 hC.2.1 hH.2.2.2 hH.2.1 c t0 e1 e2 hin hd (kk V p l e R s m args below meth c9 H locs Gl ws tys lsC hC hR hN hH hS hu hv2 hL)
theorem r_dast {c n : Nat} {f : Nat → UInt64} {i : Int32} {x : UInt64} (hd : decode (i_cc I) pc = .ok (.dastore, 1)) (hh : h.2[c]? = some (.inl (3, n, .inr (.inr (.inr (.inl f)))))) (hin : vp_in i n) (kk : AW I (pc + 1) ls st (h.1, h.2.set c (.inl (3, n, .inr (.inr (.inr (.inl (vf_upd f i.toNatClampNeg (x)))))))) uc us Q) : AW I pc ls (.double x :: .int i :: .ref c :: st) h uc us Q := by
  intro V p l e R s m args below meth c9 H locs Gl ws tys lsC hC hR hN hH hS hu hv2 hL
  obtain ⟨cA, t0, e1, e2⟩ := hH.1.arrAt hh
  refine va_dast hC.1 hC.2.1 hH.2.2.2 hH.2.1 hH.2.2.1 hS c t0 e1 e2 hin hd (fun H1 locs1 hP hD hS1 => ?_)
  exact kk V p l e R s m args below meth c9 H1 locs1 Gl _ tys lsC hC hR (fun z => by rw [List.length_set]; exact hN z) ⟨hH.1.setA hh e2 _, hP, hD, hH.2.2.2⟩ hS1 hu hv2 hL
theorem r_aald {c n b : Nat} {f : Nat → Option Nat} {i : Int32} (hd : decode (i_cc I) pc = .ok (.aaload, 1)) (hh : h.2[c]? = some (.inl (4, n, .inr (.inr (.inr (.inr f)))))) (hin : vp_in i n) (hb : f i.toNatClampNeg = some b) (kk : AW I (pc + 1) ls (.ref b :: st) h uc us Q) : AW I pc ls (.int i :: .ref c :: st) h uc us Q := by
  intro V p l e R s m args below meth c9 H locs Gl ws tys lsC hC hR hN hH hS hu hv2 hL
  obtain ⟨cA, t0, e1, e2⟩ := hH.1.arrAt hh
  refine va_aldq hC.1 hC.2.1 hH.2.2.2 hH.2.1 c t0 e1 e2 hin hd ?_
  rw [hb]
  exact kk V p l e R s m args below meth c9 H locs Gl ws tys lsC hC hR hN hH hS hu hv2 hL
theorem r_aast {c n b ci : Nat} {vs : List Value} {r : vw_C} {f : Nat → Option Nat} {i : Int32} (hd : decode (i_cc I) pc = .ok (.aastore, 1)) (hh : h.2[c]? = some (.inl (4, n, .inr (.inr (.inr (.inr f)))))) (hin : vp_in i n) (hb : h.2[b]? = some (.inr (ci, vs))) (hr : a_cls[ci]? = some r) (hr5 : r.1 = RX5) (kk : AW I (pc + 1) ls st (h.1, h.2.set c (.inl (4, n, .inr (.inr (.inr (.inr (va_up f i.toNatClampNeg (some b)))))))) uc us Q) : AW I pc ls (.ref b :: .int i :: .ref c :: st) h uc us Q := by
  intro V p l e R s m args below meth c9 H locs Gl ws tys lsC hC hR hN hH hS hu hv2 hL
  obtain ⟨cA, t0, e1, e2⟩ := hH.1.arrAt hh
  refine va_astq (r := r) hC.1 hC.2.1 hH.2.2.2 hH.2.1 hH.2.2.1 hS c t0 b ci e1 (by rw [hr5]; exact e2) (hH.1.objAt hb) hr hin hd (fun H1 locs1 hP hD hS1 => ?_)
  have e3 : va_up (fun j => (f j).map (a_ad V)) i.toNatClampNeg (some (a_ad V b)) = fun j => (va_up f i.toNatClampNeg (some b) j).map (a_ad V) := by
    funext j
    unfold va_up
    by_cases hj : j = i.toNatClampNeg <;> simp [hj]
  rw [e3] at hP hD
  exact kk V p l e R s m args below meth c9 H1 locs1 Gl _ tys lsC hC hR (fun z => by rw [List.length_set]; exact hN z) ⟨hH.1.setA hh e2 _, hP, hD, hH.2.2.2⟩ hS1 hu hv2 hL
theorem r_alen {c t : Nat} {a : vp_A} (hd : decode (i_cc I) pc = .ok (.arraylength, 1)) (hh : h.2[c]? = some (.inl (t, a))) (kk : AW I (pc + 1) ls (.int (Int32.ofNat a.1) :: st) h uc us Q) : AW I pc ls (.ref c :: st) h uc us Q := by
  intro V p l e R s m args below meth c9 H locs Gl ws tys lsC hC hR hN hH hS hu hv2 hL
  obtain ⟨cA, t0, e1, e2⟩ := hH.1.arrAt hh
  exact va_alen hC.1 hC.2.1 hH.2.2.2 hH.2.1 c t0 e1 e2 rfl hd (kk V p l e R s m args below meth c9 H locs Gl ws tys lsC hC hR hN hH hS hu hv2 hL)
theorem r_slen {L : Nat} {xs : Nat → Int32} (hd : decode (i_cc I) pc = .ok (.arraylength, 1)) (hx : i_xs I = some (L, xs)) (kk : AW I (pc + 1) ls (.int (Int32.ofNat L) :: st) h uc us Q) : AW I pc ls (.ref 5000 :: st) h uc us Q := by
  intro V p l e R s m args below meth c9 H locs Gl ws tys lsC hC hR hN hH hS hu hv2 hL
  have hX := hC.2.2.2.2.2.2.2.2.2.2.1
  have hB := hC.2.2.2.2.2.2.2.2.2.2.2.1
  have hq := hC.2.2.2.2.2.2.2.2.2.2.2.2 _ hx
  have hX1 := hX.1.1
  rw [hq.1, hq.2] at hX1
  exact va_slen hC.1 hC.2.1 hX1 (Nat.lt_of_lt_of_le hX.1.2 hB) (Nat.not_le.mpr hX.1.2) hS hd (kk V p l e R s m args below meth c9 H locs Gl ws tys lsC hC hR hN hH hS hu hv2 hL)
theorem r_sald {L : Nat} {xs : Nat → Int32} {i : Int32} (hd : decode (i_cc I) pc = .ok (.iaload, 1)) (hx : i_xs I = some (L, xs)) (hin : vp_in i L) (kk : AW I (pc + 1) ls (.int (xs i.toNatClampNeg) :: st) h uc us Q) : AW I pc ls (.int i :: .ref 5000 :: st) h uc us Q := by
  intro V p l e R s m args below meth c9 H locs Gl ws tys lsC hC hR hN hH hS hu hv2 hL
  have hX := hC.2.2.2.2.2.2.2.2.2.2.1
  have hB := hC.2.2.2.2.2.2.2.2.2.2.2.1
  have hq := hC.2.2.2.2.2.2.2.2.2.2.2.2 _ hx
  have hX1 := hX.1.1
  rw [hq.1, hq.2] at hX1
  exact va_sld hC.1 hC.2.1 hX1 (Nat.lt_of_lt_of_le hX.1.2 hB) (Nat.not_le.mpr hX.1.2) hS hin hd (kk V p l e R s m args below meth c9 H locs Gl ws tys lsC hC hR hN hH hS hu hv2 hL)
/-- a static array's reference: from the class itself, or from a nest mate -/
theorem r_gets {ix : Nat} (k : Nat) (hd : decode (i_cc I) pc = .ok (.getstatic ix, 3)) (hk : k < 3) (hw : Cond.fieldLink (i_own I) ix RX9 (a_sn k) "[I" ∈ a_GT ∨ Cond.fieldLinkNest (i_own I) ix RX9 (a_sn k) "[I" RX9 ∈ a_GN) (kk : AW I (pc + 3) ls (.ref (5001 + k) :: st) h uc us Q) : AW I pc ls st h uc us Q := by
  intro V p l e R s m args below meth c9 H locs Gl ws tys lsC hC hR hN hH hS hu hv2 hL
  have hX := hC.2.2.2.2.2.2.2.2.2.2.1
  rcases hw with hw | hw
  · exact va_gets hC.1 hC.2.1 (hX.2.1 k hk).1 hS hC.2.2.2.1 (hC.2.2.2.2.1 _ hw) (fun x hx => hx) hd (kk V p l e R s m args below meth c9 H locs Gl ws tys lsC hC hR hN hH hS hu hv2 hL)
  · exact va_getsN hC.1 hC.2.1 (hX.2.1 k hk).1 hS hC.2.2.2.1 (va_Nw.use rfl (hX.2.2.2.2.2.2.2.2.2 _ hw)) (fun x hx => hx) hd (kk V p l e R s m args below meth c9 H locs Gl ws tys lsC hC hR hN hH hS hu hv2 hL)
theorem r_tald {i : Int32} (k : Nat) (hd : decode (i_cc I) pc = .ok (.iaload, 1)) (hk : k < 3) (hin : vp_in i 3) (kk : AW I (pc + 1) ls (.int ((a_sv k).getD i.toNatClampNeg 0) :: st) h uc us Q) : AW I pc ls (.int i :: .ref (5001 + k) :: st) h uc us Q := by
  intro V p l e R s m args below meth c9 H locs Gl ws tys lsC hC hR hN hH hS hu hv2 hL
  have hX := hC.2.2.2.2.2.2.2.2.2.2.1
  exact va_ti hC.1 hC.2.1 (hX.2.1 k hk).2 hS hin rfl hd (kk V p l e R s m args below meth c9 H locs Gl ws tys lsC hC hR hN hH hS hu hv2 hL)
theorem r_kw {ix : Nat} (k : Nat) (hd : decode (i_cc I) pc = .ok (.ldc ix, 2)) (hk : (i_own I, ix, k) ∈ a_kc) (kk : AW I (pc + 2) ls (.ref (5010 + k) :: st) h uc us Q) : AW I pc ls st h uc us Q := by
  intro V p l e R s m args below meth c9 H locs Gl ws tys lsC hC hR hN hH hS hu hv2 hL
  have hX := hC.2.2.2.2.2.2.2.2.2.2.1
  exact va_ldcS hC.1 hC.2.1 hC.2.2.2.1 (hX.2.2.2.1 _ hk) hd (kk V p l e R s m args below meth c9 H locs Gl ws tys lsC hC hR hN hH hS hu hv2 hL)
theorem r_new_int {hl : List a_E} {n : Int32} (N : Nat) (hd : decode (i_cc I) pc = .ok (.newarray .int, 2)) (hw : Cond.arrayClass .int ∈ a_GT) (hn : ¬ n < 0) (hN : n.toNatClampNeg = N) (hb : N ≤ 65536) (hln : hl.length < 4999) (hu1 : uc + 1 ≤ i_mc I) (hv1 : us + N ≤ i_ms I)
    (kk : AW I (pc + 2) ls (.ref hl.length :: st) (true, hl ++ [.inl (0, N, .inl (fun _ => 0))]) (uc + 1) (us + N) Q) : AW I pc ls (.int n :: st) (true, hl) uc us Q := by
  intro V p l e R s m args below meth c9 H locs Gl ws tys lsC hC hR hNN hH hS hu hv2 hL
  have hroom := hC.2.2.2.2.2.2.2.1
  have hB := hC.2.2.2.2.2.2.2.2.2.2.2.1
  have hN1 := (hNN rfl).1
  refine va_newa (atype := .int) (ty := .int) (a0 := (N, .inl (fun _ => 0))) hC.1 hC.2.1 (hC.2.2.2.2.1 _ hw) rfl hH.2.2.2 hH.2.1 hH.2.2.1 hS (fun q hq => by unfold a_A; omega) (fun cA => rfl) hn hN (by show N * 4 ≤ _; omega) (by rw [hroom.2.2.1]; exact hu1) (by rw [hroom.2.2.2]; exact hv1) hd (fun q cA H1 hK hP hD hS1 => ?_)
  intro T hT X
  have hz := X.heapSize
  have hq : q < H1.size := (hP ws.length (q, .inl (cA, (N, .inl (fun _ => 0)))) (by rw [List.getElem?_append_right (Nat.le_refl _), Nat.sub_self]; rfl)).lt
  have hqa : q = a_ad V hl.length := a_new (h := hl) hH.1 (by omega) hD (by rw [hT] at hz; dsimp only at hN1; omega)
  subst hqa
  exact kk V p l e R s m args below meth c9 H1 locs Gl _ _ lsC hC hR (fun z => by dsimp only at hN1 ⊢; rw [List.length_append]; show _ = _ + (_ + 1) ∧ _ + 1 ≤ 5000; omega) ⟨hH.1.pushA cA 0 (N, .inl (fun _ => 0)), hP, hD, hK⟩ hS1 hu1 hv1 hL T hT X
theorem r_new_byte {hl : List a_E} {n : Int32} (N : Nat) (hd : decode (i_cc I) pc = .ok (.newarray .byte, 2)) (hw : Cond.arrayClass .byte ∈ a_GT) (hn : ¬ n < 0) (hN : n.toNatClampNeg = N) (hb : N ≤ 65536) (hln : hl.length < 4999) (hu1 : uc + 1 ≤ i_mc I) (hv1 : us + N ≤ i_ms I)
    (kk : AW I (pc + 2) ls (.ref hl.length :: st) (true, hl ++ [.inl (1, N, .inl (fun _ => 0))]) (uc + 1) (us + N) Q) : AW I pc ls (.int n :: st) (true, hl) uc us Q := by
  intro V p l e R s m args below meth c9 H locs Gl ws tys lsC hC hR hNN hH hS hu hv2 hL
  have hroom := hC.2.2.2.2.2.2.2.1
  have hB := hC.2.2.2.2.2.2.2.2.2.2.2.1
  have hN1 := (hNN rfl).1
  refine va_newa (atype := .byte) (ty := .byte) (a0 := (N, .inl (fun _ => 0))) hC.1 hC.2.1 (hC.2.2.2.2.1 _ hw) rfl hH.2.2.2 hH.2.1 hH.2.2.1 hS (fun q hq => by unfold a_A; omega) (fun cA => rfl) hn hN (by show N * 1 ≤ _; omega) (by rw [hroom.2.2.1]; exact hu1) (by rw [hroom.2.2.2]; exact hv1) hd (fun q cA H1 hK hP hD hS1 => ?_)
  intro T hT X
  have hz := X.heapSize
  have hq : q < H1.size := (hP ws.length (q, .inl (cA, (N, .inl (fun _ => 0)))) (by rw [List.getElem?_append_right (Nat.le_refl _), Nat.sub_self]; rfl)).lt
  have hqa : q = a_ad V hl.length := a_new (h := hl) hH.1 (by omega) hD (by rw [hT] at hz; dsimp only at hN1; omega)
  subst hqa
  exact kk V p l e R s m args below meth c9 H1 locs Gl _ _ lsC hC hR (fun z => by dsimp only at hN1 ⊢; rw [List.length_append]; show _ = _ + (_ + 1) ∧ _ + 1 ≤ 5000; omega) ⟨hH.1.pushA cA 1 (N, .inl (fun _ => 0)), hP, hD, hK⟩ hS1 hu1 hv1 hL T hT X
theorem r_new_long {hl : List a_E} {n : Int32} (N : Nat) (hd : decode (i_cc I) pc = .ok (.newarray .long, 2)) (hw : Cond.arrayClass .long ∈ a_GT) (hn : ¬ n < 0) (hN : n.toNatClampNeg = N) (hb : N ≤ 65536) (hln : hl.length < 4999) (hu1 : uc + 1 ≤ i_mc I) (hv1 : us + N ≤ i_ms I)
    (kk : AW I (pc + 2) ls (.ref hl.length :: st) (true, hl ++ [.inl (2, N, .inr (.inl (fun _ => 0)))]) (uc + 1) (us + N) Q) : AW I pc ls (.int n :: st) (true, hl) uc us Q := by
  intro V p l e R s m args below meth c9 H locs Gl ws tys lsC hC hR hNN hH hS hu hv2 hL
  have hroom := hC.2.2.2.2.2.2.2.1
  have hB := hC.2.2.2.2.2.2.2.2.2.2.2.1
  have hN1 := (hNN rfl).1
  refine va_newa (atype := .long) (ty := .long) (a0 := (N, .inr (.inl (fun _ => 0)))) hC.1 hC.2.1 (hC.2.2.2.2.1 _ hw) rfl hH.2.2.2 hH.2.1 hH.2.2.1 hS (fun q hq => by unfold a_A; omega) (fun cA => rfl) hn hN (by show N * 8 ≤ _; omega) (by rw [hroom.2.2.1]; exact hu1) (by rw [hroom.2.2.2]; exact hv1) hd (fun q cA H1 hK hP hD hS1 => ?_)
  intro T hT X
  have hz := X.heapSize
  have hq : q < H1.size := (hP ws.length (q, .inl (cA, (N, .inr (.inl (fun _ => 0))))) (by rw [List.getElem?_append_right (Nat.le_refl _), Nat.sub_self]; rfl)).lt
  have hqa : q = a_ad V hl.length := a_new (h := hl) hH.1 (by omega) hD (by rw [hT] at hz; dsimp only at hN1; omega)
  subst hqa
  exact kk V p l e R s m args below meth c9 H1 locs Gl _ _ lsC hC hR (fun z => by dsimp only at hN1 ⊢; rw [List.length_append]; show _ = _ + (_ + 1) ∧ _ + 1 ≤ 5000; omega) ⟨hH.1.pushA cA 2 (N, .inr (.inl (fun _ => 0))), hP, hD, hK⟩ hS1 hu1 hv1 hL T hT X
theorem r_new_double {hl : List a_E} {n : Int32} (N : Nat) (hd : decode (i_cc I) pc = .ok (.newarray .double, 2)) (hw : Cond.arrayClass .double ∈ a_GT) (hn : ¬ n < 0) (hN : n.toNatClampNeg = N) (hb : N ≤ 65536) (hln : hl.length < 4999) (hu1 : uc + 1 ≤ i_mc I) (hv1 : us + N ≤ i_ms I)
    (kk : AW I (pc + 2) ls (.ref hl.length :: st) (true, hl ++ [.inl (3, N, .inr (.inr (.inr (.inl (fun _ => 0)))))]) (uc + 1) (us + N) Q) : AW I pc ls (.int n :: st) (true, hl) uc us Q := by
  intro V p l e R s m args below meth c9 H locs Gl ws tys lsC hC hR hNN hH hS hu hv2 hL
  have hroom := hC.2.2.2.2.2.2.2.1
  have hB := hC.2.2.2.2.2.2.2.2.2.2.2.1
  have hN1 := (hNN rfl).1
  refine va_newa (atype := .double) (ty := .double) (a0 := (N, .inr (.inr (.inr (.inl (fun _ => 0)))))) hC.1 hC.2.1 (hC.2.2.2.2.1 _ hw) rfl hH.2.2.2 hH.2.1 hH.2.2.1 hS (fun q hq => by unfold a_A; omega) (fun cA => rfl) hn hN (by show N * 8 ≤ _; omega) (by rw [hroom.2.2.1]; exact hu1) (by rw [hroom.2.2.2]; exact hv1) hd (fun q cA H1 hK hP hD hS1 => ?_)
  intro T hT X
  have hz := X.heapSize
  have hq : q < H1.size := (hP ws.length (q, .inl (cA, (N, .inr (.inr (.inr (.inl (fun _ => 0))))))) (by rw [List.getElem?_append_right (Nat.le_refl _), Nat.sub_self]; rfl)).lt
  have hqa : q = a_ad V hl.length := a_new (h := hl) hH.1 (by omega) hD (by rw [hT] at hz; dsimp only at hN1; omega)
  subst hqa
  exact kk V p l e R s m args below meth c9 H1 locs Gl _ _ lsC hC hR (fun z => by dsimp only at hN1 ⊢; rw [List.length_append]; show _ = _ + (_ + 1) ∧ _ + 1 ≤ 5000; omega) ⟨hH.1.pushA cA 3 (N, .inr (.inr (.inr (.inl (fun _ => 0))))), hP, hD, hK⟩ hS1 hu1 hv1 hL T hT X
theorem r_anew {hl : List a_E} {n : Int32} {ix : Nat} (N : Nat) (hd : decode (i_cc I) pc = .ok (.anewarray ix, 3)) (hw1 : Cond.classLink (i_own I) ix RX5 ∈ a_GT) (hw : Cond.arrayOver (.object RX5) ∈ a_GN) (hn : ¬ n < 0) (hN : n.toNatClampNeg = N) (hb : N ≤ 65536) (hln : hl.length < 4999) (hu1 : uc + 1 ≤ i_mc I) (hv1 : us + N ≤ i_ms I)
    (kk : AW I (pc + 3) ls (.ref hl.length :: st) (true, hl ++ [.inl (4, N, .inr (.inr (.inr (.inr (fun _ => none)))))]) (uc + 1) (us + N) Q) : AW I pc ls (.int n :: st) (true, hl) uc us Q := by
  intro V p l e R s m args below meth c9 H locs Gl ws tys lsC hC hR hNN hH hS hu hv2 hL
  have hroom := hC.2.2.2.2.2.2.2.1
  have hB := hC.2.2.2.2.2.2.2.2.2.2.2.1
  have hN1 := (hNN rfl).1
  have hAO : va_AO RX5 s := hC.2.2.2.2.2.2.2.2.2.2.1.2.2.2.2.2.2.2.2.2 _ hw
  refine va_newq (C := RX5) hC.1 hC.2.1 hC.2.2.2.1 (hC.2.2.2.2.1 _ hw1) hAO hH.2.2.2 hH.2.1 hH.2.2.1 hS (fun q hq => by unfold a_A; omega) hn hN (by omega) (by rw [hroom.2.2.1]; exact hu1) (by rw [hroom.2.2.2]; exact hv1) hd (fun q cA H1 hK hP hD hS1 => ?_)
  intro T hT X
  have hz := X.heapSize
  have hq : q < H1.size := (hP ws.length (q, .inl (cA, (N, .inr (.inr (.inr (.inr (fun _ => none))))))) (by rw [List.getElem?_append_right (Nat.le_refl _), Nat.sub_self]; rfl)).lt
  have hqa : q = a_ad V hl.length := a_new (h := hl) hH.1 (by omega) hD (by rw [hT] at hz; dsimp only at hN1; omega)
  subst hqa
  exact kk V p l e R s m args below meth c9 H1 locs Gl _ _ lsC hC hR (fun z => by dsimp only at hN1 ⊢; rw [List.length_append]; show _ = _ + (_ + 1) ∧ _ + 1 ≤ 5000; omega) ⟨hH.1.pushA cA 4 (N, .inr (.inr (.inr (.inr (fun _ => none))))), hP, hD, hK⟩ hS1 hu1 hv1 hL T hT X
def a_AC (own : String) (ix : Nat) : Prop := Cond.methodLink own ix arraycopyName ∈ a_GT ∧ Cond.native arraycopyName ∈ a_GT ∧ Cond.static arraycopyName ∈ a_GT ∧ Cond.initialized "java/lang/System" ∈ a_GT
theorem r_copyi {ix a0 a n0 n1 : Nat} {f g : Nat → Int32} {sp dp n : Int32} (hd : decode (i_cc I) pc = .ok (.invokestatic ix, 3)) (hw : a_AC (i_own I) ix) (h0 : h.2[a0]? = some (.inl (0, n0, .inl f))) (h1 : h.2[a]? = some (.inl (0, n1, .inl g)))
    (g1 : ¬ sp < 0) (g2 : ¬ dp < 0) (g3 : ¬ n < 0) (g4 : sp.toNatClampNeg + n.toNatClampNeg ≤ n0) (g5 : dp.toNatClampNeg + n.toNatClampNeg ≤ n1) (hdp : 1 ≤ i_d I) (hst : (st.map fun v => v.category).sum ≤ 8)
    (kk : AW I (pc + 3) ls st (h.1, h.2.set a (.inl (0, n1, .inl (va_cpy f g sp.toNatClampNeg dp.toNatClampNeg n.toNatClampNeg)))) uc us Q) : AW I pc ls (.int n :: .int dp :: .ref a :: .int sp :: .ref a0 :: st) h uc us Q := by
  intro V p l e R s m args below meth c9 H locs Gl ws tys lsC hC hR hN hH hS hu hv2 hL
  obtain ⟨w1, w2, w3, w4⟩ := hw
  have hroom := hC.2.2.2.2.2.2.2.1
  obtain ⟨cA, t0, e1, e2⟩ := hH.1.arrAt h0
  obtain ⟨cB, t1, e3, e4⟩ := hH.1.arrAt h1
  have hcat : ((st.map (a_cv V)).map fun v => v.category).sum = (st.map fun v => v.category).sum := by rw [List.map_map]; congr 1; exact List.map_congr_left (fun v _ => a_cv_cat V v)
  have hnw : nativeFrameWords "java/lang/System" "arraycopy" 5 ≤ 30 := by decide +kernel
  refine va_copyi (ty := .int) hC.1 hC.2.1 (by rw [hC.2.2.1, hL.1]) hC.2.2.2.1 (hC.2.2.2.2.1 _ w1) (hC.2.2.2.2.1 _ w2) (hC.2.2.2.2.1 _ w3) (hC.2.2.2.2.1 _ w4) hH.2.2.2 hH.2.1 hH.2.2.1 hS a0 a t0 t1 e1 e3 e2 e4 rfl g1 g2 g3 g4 g5 (fun i _ => rfl) (by omega) (by rw [hcat]; omega) hd (fun H1 locs1 hP hD hS1 => ?_)
  exact kk V p l e R s m args below meth c9 H1 locs1 Gl _ tys lsC hC hR (fun z => by rw [List.length_set]; exact hN z) ⟨hH.1.setA h1 e4 _, hP, hD, hH.2.2.2⟩ hS1 hu hv2 hL
theorem r_mmax {ix : Nat} {x y : Int32} (hd : decode (i_cc I) pc = .ok (.invokestatic ix, 3)) (w1 : Cond.methodLink (i_own I) ix Lib.Math.max.name ∈ a_GT) (w2 : Cond.static Lib.Math.max.name ∈ a_GT) (w3 : Cond.initialized "java/lang/Math" ∈ a_GT) (w4 : Cond.code Lib.Math.max.name Lib.Math.max.code 2 (some .int) ∈ a_GT) (hdp : 1 ≤ i_d I) (hst : (st.map fun v => v.category).sum ≤ 8)
    (kk : AW I (pc + 3) ls (.int (if x < y then y else x) :: st) h uc us Q) : AW I pc ls (.int y :: .int x :: st) h uc us Q := by
  intro V p l e R s m args below meth c9 H locs Gl ws tys lsC hC hR hN hH hS hu hv2 hL
  have hroom := hC.2.2.2.2.2.2.2.1
  have hcat : ((st.map (a_cv V)).map fun v => v.category).sum = (st.map fun v => v.category).sum := by rw [List.map_map]; congr 1; exact List.map_congr_left (fun v _ => a_cv_cat V v)
  exact va_mmax hC.1 hC.2.1 (by rw [hC.2.2.1, hL.1]) hC.2.2.2.1 (hC.2.2.2.2.1 _ w1) (hC.2.2.2.2.1 _ w2) (hC.2.2.2.2.1 _ w3) (hC.2.2.2.2.1 _ w4) (by omega) (by rw [hcat]; omega) (by omega) (by omega) hd (kk V p l e R s m args below meth c9 H locs Gl ws tys lsC hC hR hN hH hS hu hv2 hL)
theorem r_mmin {ix : Nat} {x y : Int32} (hd : decode (i_cc I) pc = .ok (.invokestatic ix, 3)) (w1 : Cond.methodLink (i_own I) ix Lib.Math.min.name ∈ a_GT) (w2 : Cond.static Lib.Math.min.name ∈ a_GT) (w3 : Cond.initialized "java/lang/Math" ∈ a_GT) (w4 : Cond.code Lib.Math.min.name Lib.Math.min.code 2 (some .int) ∈ a_GT) (hdp : 1 ≤ i_d I) (hst : (st.map fun v => v.category).sum ≤ 8)
    (kk : AW I (pc + 3) ls (.int (if y < x then y else x) :: st) h uc us Q) : AW I pc ls (.int y :: .int x :: st) h uc us Q := by
  intro V p l e R s m args below meth c9 H locs Gl ws tys lsC hC hR hN hH hS hu hv2 hL
  have hroom := hC.2.2.2.2.2.2.2.1
  have hcat : ((st.map (a_cv V)).map fun v => v.category).sum = (st.map fun v => v.category).sum := by rw [List.map_map]; congr 1; exact List.map_congr_left (fun v _ => a_cv_cat V v)
  exact va_mmin hC.1 hC.2.1 (by rw [hC.2.2.1, hL.1]) hC.2.2.2.1 (hC.2.2.2.2.1 _ w1) (hC.2.2.2.2.1 _ w2) (hC.2.2.2.2.1 _ w3) (hC.2.2.2.2.1 _ w4) (by omega) (by rw [hcat]; omega) (by omega) (by omega) hd (kk V p l e R s m args below meth c9 H locs Gl ws tys lsC hC hR hN hH hS hu hv2 hL)
theorem r_mabs {ix : Nat} {x : Int32} (hd : decode (i_cc I) pc = .ok (.invokestatic ix, 3)) (w1 : Cond.methodLink (i_own I) ix Lib.Math.abs.name ∈ a_GT) (w2 : Cond.static Lib.Math.abs.name ∈ a_GT) (w3 : Cond.initialized "java/lang/Math" ∈ a_GT) (w4 : Cond.code Lib.Math.abs.name Lib.Math.abs.code 1 (some .int) ∈ a_GT) (hdp : 1 ≤ i_d I) (hst : (st.map fun v => v.category).sum ≤ 8)
    (kk : AW I (pc + 3) ls (.int (if 0 ≤ x then x else 0 - x) :: st) h uc us Q) : AW I pc ls (.int x :: st) h uc us Q := by
  intro V p l e R s m args below meth c9 H locs Gl ws tys lsC hC hR hN hH hS hu hv2 hL
  have hroom := hC.2.2.2.2.2.2.2.1
  have hcat : ((st.map (a_cv V)).map fun v => v.category).sum = (st.map fun v => v.category).sum := by rw [List.map_map]; congr 1; exact List.map_congr_left (fun v _ => a_cv_cat V v)
  exact va_mabs hC.1 hC.2.1 (by rw [hC.2.2.1, hL.1]) hC.2.2.2.1 (hC.2.2.2.2.1 _ w1) (hC.2.2.2.2.1 _ w2) (hC.2.2.2.2.1 _ w3) (hC.2.2.2.2.1 _ w4) (by omega) (by rw [hcat]; omega) (by omega) (by omega) hd (kk V p l e R s m args below meth c9 H locs Gl ws tys lsC hC hR hN hH hS hu hv2 hL)
end AH2
end
section
section AC
theorem a_cat (V : a_V) (st : List Value) : ((st.map (a_cv V)).map fun v => v.category).sum = (st.map fun v => v.category).sum := by
  rw [List.map_map]; congr 1; exact List.map_congr_left (fun v _ => a_cv_cat V v)
theorem a_L.stN {V : a_V} {lsC : Array Slot} {nL i : Nat} {ls : List Value} {v : Value} (hk : ∀ j w, ls[j]? = some w → j + 1 = i → w.category = 1)
    (h : lv_has lsC nL ((i, v) :: (a_ll V ls).filter (fun q => !(q.1 == i) && !(q.1 + 1 == i && q.2.category == 2)))) : a_L V lsC nL (ls.set i .null) := by
  refine ⟨h.1, h.2.1, fun j w hj hw => ?_⟩
  by_cases hji : j = i
  · subst hji
    have hl : j < ls.length := by have := (List.getElem?_eq_some_iff.mp hj).1; simpa using this
    rw [List.getElem?_set_self hl] at hj
    cases hj
    exact absurd rfl hw
  · rw [List.getElem?_set_ne (Ne.symm hji)] at hj
    refine h.2.2 (j, a_cv V w) (List.mem_cons_of_mem _ (List.mem_filter.mpr ⟨a_ll_mem.mpr ⟨w, hj, hw, rfl⟩, ?_⟩))
    by_cases h2 : j + 1 = i
    · have := hk j w hj h2
      simp [hji, a_cv_cat, this]
    · simp [hji, h2]
/-- a handler that takes E at pc and lays it away -/
def a_hd (I : a_I) (pc : Nat) (E : String) (tgt k nx : Nat) : Prop :=
  E ∈ a_ex ∧ (∃ (pre : List ExceptionTableEntry) (x : ExceptionTableEntry) (suf : List ExceptionTableEntry), tableOf (i_hh I) = pre ++ x :: suf ∧ x.handlerPc = tgt ∧ covers x pc = true ∧ x.catchType ≠ 0 ∧ Cond.classLink (i_own I) x.catchType E ∈ a_GT ∧ Cond.castable E E ∈ a_GN ∧
    ∀ z ∈ pre, z.catchType ≠ 0 ∧ ∃ nm ∈ a_ex, E ≠ nm ∧ Cond.classLink (i_own I) z.catchType nm ∈ a_GT) ∧
  ((∃ f : Fin 4, decode (i_cc I) tgt = .ok (.astore_n f, 1) ∧ (f : Nat) = k ∧ nx = tgt + 1) ∨ (decode (i_cc I) tgt = .ok (.astore k, 2) ∧ nx = tgt + 2)) ∧ k < i_nL I
theorem a_Pre.of {V : a_V} {h : a_H} {s U : State} {H : Heap} {locs : List Loc} {ws : va_W} {tys : List (ClassId × FieldType)} (hX : a_X V s s.heap) (hB : V.2.1 ≤ s.heap.size) (hH : a_HP V h.2 H s ws tys) (hS : va_S (a_A V) s.heap H locs) (hcl : a_cl V h H.size) (hU : U.heap = H) (hW : s.WarmedH U.vm) : a_Pre V h U := by
  refine ⟨⟨ws, tys, ?_⟩, ?_, ?_, ?_⟩
  · rw [hU]; exact hH.moved hW.alike
  · rw [hU]; exact (a_X.moved hW hX).kept hB hS.2.1
  · rw [hU]; exact hcl
  · rw [hU]; exact Nat.le_trans hB hS.1
theorem a_clH {V : a_V} {h : a_H} {H : Heap} {s : State} {ws : va_W} {tys : List (ClassId × FieldType)} {n : Nat} (hH : a_HP V h.2 H s ws tys) (hN : a_cl V h n) (hz : H.size ≤ n) (hB : V.2.1 ≤ H.size) : a_cl V h H.size := by
  intro z
  obtain ⟨h1, h2⟩ := hN z
  refine ⟨?_, h2⟩
  by_cases h0 : h.2.length = 0
  · omega
  · obtain ⟨e, he⟩ := hH.1.adAt (c := h.2.length - 1) (by omega)
    have hlt := (hH.2.1 _ _ he).lt
    have ha : a_ad V (h.2.length - 1) = V.2.1 + (h.2.length - 1) := if_pos (by omega)
    rw [ha] at hlt
    omega
/-- behind a call -/
theorem a_after {V : a_V} {I : a_I} {p : Program} {l : Launch} {e : Env} {R : Room} {s : State} {m : MethodId} {args : Array Value} {below : List Frame} {meth : Method} {c9 : Code} {H : Heap} {locs : List Loc} {Gl : State → Prop} {ws : va_W} {tys : List (ClassId × FieldType)} {lsC : Array Slot} {pc uc us mc ms : Nat} {ls st : List Value} {h : a_H} {Q Q' : a_Q} {st0 : List Value} {a : Array Value}
    (hC : a_CT V I p l R s m args meth c9) (hR : a_RT V I p l e R s m args below meth c9 Gl Q) (hN : a_cl V h (s.heap.size + uc)) (hH : a_HP V h.2 H s ws tys) (hS : va_S (a_A V) s.heap H locs) (hL : a_L V lsC (i_nL I) ls) (hu1 : uc + mc ≤ i_mc I) (hv1 : us + ms ≤ i_ms I)
    (hrun : a_cl V h H.size → vx_Run p l e R s m args below meth c9 H locs uc us mc ms (F0 m pc lsC st0) (st.map (a_cv V)) (a_Qc V Q' a) (a_XC V Q') (a_A V))
    (k : ∀ v h', Q' (.inl v) h' → (h'.1 = true → h.1 = true ∧ h'.2.length = h.2.length + mc ∧ h'.2.length ≤ 5000) ∧ AW I (pc + 3) ls (v.toList ++ st) h' (uc + mc) (us + ms) Q)
    (kx : ∀ E h', Q' (.inr E) h' → (i_hh I = [] ∧ Q (.inr E) h') ∨ (∃ tgt k nx, a_hd I pc E tgt k nx ∧ h'.1 = false ∧ (∀ j w, ls[j]? = some w → j + 1 = k → w.category = 1) ∧ AW I nx (ls.set k .null) [] h' (uc + mc) (us + ms) Q)) :
    W p l e R s m args below meth c9 H locs uc us Gl (F0 m pc lsC st0) := by
  intro T hT X
  have hz := X.heapSize
  rw [hT] at hz
  have hB := hC.2.2.2.2.2.2.2.2.2.2.2.1
  have hB2 : V.2.1 ≤ H.size := Nat.le_trans hB hS.1
  rcases hrun (a_clH hH hN hz hB2) T hT X with ⟨v, st1, t, T', L, h0, X', hLx, e1, e2, hq, hgo⟩ | ⟨q, st1, t, T', L, E, ce, h0, X', hLx, e1, e2, hx, hce, hcv, hcl, hgo⟩
  · obtain ⟨⟨v0, h', hv, hQ, ws', tys', hP'⟩, hF⟩ := hq
    obtain ⟨g1, g2, g3⟩ := vx_keep h0 e1 hS (fun q _ z => z) (fun q z => z) hLx hF
    cases hv
    have hal : t.vm.Alike s.vm := by rw [← e2]; exact X'.warmed.alike.symm
    obtain ⟨k1, k2⟩ := k v0 h' hQ
    have hw := k2 V p l e R s m args below meth c9 T'.heap (locs ++ L) Gl ws' tys' lsC hC hR (fun z => by
        obtain ⟨z1, z2, z3⟩ := k1 z
        have := (hN z1).1
        exact ⟨by omega, z3⟩) (by rw [e1]; exact hP'.moved hal) g3 hu1 hv1 hL
    obtain ⟨t2, a1, b1⟩ := hw T' rfl X'
    refine ⟨t2, hgo t2 ?_, b1⟩
    cases v0 <;> exact a1
  · obtain ⟨⟨h', hQ, ws', tys', hP'⟩, hF⟩ := hx
    obtain ⟨g1, g2, g3⟩ := vx_keep h0 e1 hS (fun q _ z => z) (fun q z => z) hLx hF
    have hal : t.vm.Alike s.vm := by rw [← e2]; exact X'.warmed.alike.symm
    have hPs : a_HP V h'.2 T'.heap s ws' tys' := by rw [e1]; exact hP'.moved hal
    rcases kx E h' hQ with ⟨hh, hq2⟩ | ⟨tgt, kk, nx, ⟨hE, ⟨pre, x, suf, hs1, hs2, hs3, hs4, hs5, hs6, hs7⟩, hd, hkn⟩, hcln, hcat, hw⟩
    · obtain ⟨t2, a1, b1⟩ := vx_widen hu1 hv1 (hR.2.1 hh T'.heap (locs ++ L) h' ws' tys' pc lsC (st.map (a_cv V)) E ce q hPs g3 hq2 (by rw [e1]; exact hce) hcv hcl) T' rfl X'
      exact ⟨t2, hgo.trans a1, b1⟩
    · have hex := hC.2.2.2.2.2.2.2.2.2.2.1.2.2.2.2.2.2.2.2.1
      have hca : vx_W p l e R s m args below meth c9 T'.heap (locs ++ L) (uc + mc) (us + ms) Gl (F0 m pc lsC (st.map (a_cv V))) q := by
        refine vx_catch hC.2.2.2.1 pre x suf (by rw [hC.2.2.2.2.2.2.2.2.1]; exact hs1) (fun z hz => ?_) hs3 hs4 (hC.2.2.2.2.1 _ hs5) (va_Nw.use rfl (hC.2.2.2.2.2.2.2.2.2.2.1.2.2.2.2.2.2.2.2.2 _ hs6)) (by rw [e1]; exact hce) hcv hcl ?_
        · obtain ⟨z1, nm, hnm, z2, z3⟩ := hs7 z hz
          exact Or.inr ⟨z1, nm, hC.2.2.2.2.1 _ z3, hex E hE nm hnm z2⟩
        · rw [hs2]
          rcases hd with ⟨f, hd, hfk, rfl⟩ | ⟨hd, rfl⟩
          · subst hfk
            refine lv_astore_n hC.1 hC.2.1 hd rfl hL.has hkn rfl (fun ls2 h2 => ?_)
            exact hw V p l e R s m args below meth c9 T'.heap (locs ++ L) Gl ws' tys' ls2 hC hR (fun z => by rw [hcln] at z; cases z) hPs g3 hu1 hv1 (a_L.stN hcat h2)
          · refine lv_astore hC.1 hC.2.1 hd hL.has hkn rfl (fun ls2 h2 => ?_)
            exact hw V p l e R s m args below meth c9 T'.heap (locs ++ L) Gl ws' tys' ls2 hC hR (fun z => by rw [hcln] at z; cases z) hPs g3 hu1 hv1 (a_L.stN hcat h2)
      obtain ⟨t2, a1, b1⟩ := hca T' rfl X'
      exact ⟨t2, hgo.trans a1, b1⟩
theorem a_good {l : List Cond} (h : ∀ w ∈ l, w ∈ a_GT) : GoodIn a_GT l := fun w hw => ⟨h w hw, good_of_word (a_GT_good w (h w hw))⟩
end AC
end
section
section AD1
variable {I : a_I} {pc uc us : Nat} {ls st : List Value} {h : a_H} {Q : a_Q}
theorem r_ret {v : Value} (hd : a_rd (i_cc I) pc (some v)) (hok : a_ok (i_ret I) (some v)) (hq : Q (.inl (some v)) h) : AW I pc ls [v] h uc us Q := by
  intro V p l e R s m args below meth c9 H locs Gl ws tys lsC hC hR hN hH hS hu hv2 hL
  exact W.widen hu hv2 (hR.1 H locs h ws tys pc lsC (some v) hH hS hq hd hok)
theorem r_vret (hd : decode (i_cc I) pc = .ok (.return_, 1)) (hok : i_ret I = none) (hq : Q (.inl none) h) : AW I pc ls [] h uc us Q := by
  intro V p l e R s m args below meth c9 H locs Gl ws tys lsC hC hR hN hH hS hu hv2 hL
  exact W.widen hu hv2 (hR.1 H locs h ws tys pc lsC none hH hS hq hd hok)
theorem r_iret {x : Int32} (hd : decode (i_cc I) pc = .ok (.ireturn, 1)) (hok : i_ret I = some .int) (hq : Q (.inl (some (.int x))) h) : AW I pc ls [.int x] h uc us Q := r_ret hd ⟨.int, hok, rfl⟩ hq
theorem r_lret {x : Int64} (hd : decode (i_cc I) pc = .ok (.lreturn, 1)) (hok : i_ret I = some .long) (hq : Q (.inl (some (.long x))) h) : AW I pc ls [.long x] h uc us Q := r_ret hd hok hq
theorem r_fret {x : UInt32} (hd : decode (i_cc I) pc = .ok (.freturn, 1)) (hok : i_ret I = some .float) (hq : Q (.inl (some (.float x))) h) : AW I pc ls [.float x] h uc us Q := r_ret hd hok hq
theorem r_zret (b : Bool) {x : Int32} (hd : decode (i_cc I) pc = .ok (.ireturn, 1)) (hok : i_ret I = some .boolean) (hx : x = if b then 1 else 0) (hq : Q (.inl (some (.int (if b then 1 else 0)))) h) : AW I pc ls [.int x] h uc us Q := by
  subst hx
  refine r_ret hd ⟨.boolean, hok, ?_⟩ hq
  cases b <;> decide
theorem r_throw {E : String} (hth : a_th I pc E) (hh : i_hh I = []) (hd : 6 ≤ i_d I) (hst : (st.map fun v => v.category).sum ≤ 200) (hu1 : uc + 1 ≤ i_mc I) (hv1 : us + 6 ≤ i_ms I) (hq : Q (.inr E) (false, h.2)) : AW I pc ls st h uc us Q := by
  intro V p l e R s m args below meth c9 H locs Gl ws tys lsC hC hR hN hH hS hu hv2 hL
  exact hR.2.2 hh H locs h ws tys pc lsC (st.map (a_cv V)) E uc us hH hS hq hth hd (by rw [a_cat]; exact hst) hu1 hv1 (by rw [hC.2.2.1]; exact hL.1)
/-- from a clean heap to one of which nothing is said -/
theorem r_dirty {hl : List a_E} (k : AW I pc ls st (false, hl) uc us Q) : AW I pc ls st (true, hl) uc us Q := by
  intro V p l e R s m args below meth c9 H locs Gl ws tys lsC hC hR hN hH hS hu hv2 hL
  exact k V p l e R s m args below meth c9 H locs Gl ws tys lsC hC hR (fun z => by cases z) hH hS hu hv2 hL
theorem r_wide {uc' us' : Nat} (h1 : uc ≤ uc') (h2 : us ≤ us') (h3 : uc' ≤ i_mc I) (h4 : us' ≤ i_ms I) {hl : List a_E} (k : AW I pc ls st (false, hl) uc' us' Q) : AW I pc ls st (false, hl) uc us Q := by
  intro V p l e R s m args below meth c9 H locs Gl ws tys lsC hC hR hN hH hS hu hv2 hL
  exact W.widen h1 h2 (k V p l e R s m args below meth c9 H locs Gl ws tys lsC hC hR (fun z => by cases z) hH hS h3 h4 hL)
theorem r_post {Q1 : a_Q} (hq : ∀ o h', Q1 o h' → Q o h') (k : AW I pc ls st h uc us Q1) : AW I pc ls st h uc us Q := by
  intro V p l e R s m args below meth c9 H locs Gl ws tys lsC hC hR hN hH hS hu hv2 hL
  exact k V p l e R s m args below meth c9 H locs Gl ws tys lsC hC ⟨fun H locs h ws tys pc ls v a1 a2 a3 => hR.1 H locs h ws tys pc ls v a1 a2 (hq _ _ a3), fun z H locs h ws tys pc ls rest E ce q a1 a2 a3 => hR.2.1 z H locs h ws tys pc ls rest E ce q a1 a2 (hq _ _ a3),
    fun z H locs h ws tys pc ls rest E uc us a1 a2 a3 => hR.2.2 z H locs h ws tys pc ls rest E uc us a1 a2 (hq _ _ a3)⟩ hN hH hS hu hv2 hL
end AD1
theorem a_atS_ok : ∀ E ∈ a_ex, Bundle.fit E = true := by decide +kernel
theorem a_atS_nm : ∀ n ∈ ["java/lang/RuntimeException", "java/lang/Exception"], Bundle.fit n = true := by decide +kernel
theorem a_tb_ot {w : Cond} (h : w.onTables = true) : vx_ot w = true := by
  unfold vx_ot
  rw [h, Bool.true_or]
theorem a_good_ot {w : Cond} (h : goodWord w = true) : vx_ot w = true := by
  unfold vx_ot
  rw [h, Bool.or_true]
set_option maxHeartbeats 4000000 in
/-- a body's walk gives the contract -/
theorem a_met {y : MethodName} {I : a_I} {av : List Value} {h : a_H} {Q : a_Q} (hy : plainName y.cls = true) (hown : i_own I = y.cls) (hnh : i_hh I = []) (hlen : av.length ≤ i_nL I) (hcat : ∀ v ∈ av, v.category = 1) (hini : i_ini I = true → y.name = "<init>") (hxs : i_xs I = none)
    (k : AW I 0 (av ++ List.replicate (i_nL I - av.length) .null) [] h 0 0 Q) : AM y I av h Q := by
  intro l V hl
  have hcd : a_cd y I = Cond.code y (i_cc I) (i_nL I) (i_ret I) := if_pos hnh
  refine vx_ofW (cc := i_cc I) (maxL := i_nL I) (ret := i_ret I) (ws' := a_GT) hy (by rw [hcd]) ?_
  intro p e s m args below meth c s₁ B hml hnox hPre
  obtain ⟨rfl, ⟨ws, tys, hP⟩, hX, hcl, hB⟩ := hPre
  have hts := atoms_spec (ws := a_cd y I :: a_GT) B.pre
  have hno : c.exceptionTable.toList = [] := List.eq_nil_iff_forall_not_mem.mpr hnox
  have hlocks := B.notSynchronized
  have hsl : lg_sl (av.map (a_cv V)) = (av.map (a_cv V)).map Slot.val := by
    unfold lg_sl
    rw [List.flatMap_map, List.map_map]
    have : ∀ (l : List Value), (∀ v ∈ l, v.category = 1) → l.flatMap (fun v => if (a_cv V v).category = 2 then [Slot.val (a_cv V v), Slot.second] else [Slot.val (a_cv V v)]) = l.map (Slot.val ∘ a_cv V) := by
      intro l
      induction l with
      | nil => intro _; rfl
      | cons v t ih =>
        intro hv
        have h1 := hv v List.mem_cons_self
        rw [List.flatMap_cons, ih (fun w hw => hv w (List.mem_cons_of_mem _ hw)), a_cv_cat, h1]
        rfl
    exact this av hcat
  have hentry := lv_entry (av.map (a_cv V)) (n := i_nL I) (by rw [hsl]; simpa using hlen)
  rw [lg_entry_eq]
  have hargs : ∀ (i : Nat) (v : Value), av[i]? = some v → ((lg_sl (av.map (a_cv V)) ++ List.replicate (i_nL I - (lg_sl (av.map (a_cv V))).length) Slot.unset).toArray)[i]? = some (.val (a_cv V v)) := by
    intro i v hv
    have hi := (List.getElem?_eq_some_iff.mp hv).1
    rw [hsl, List.getElem?_toArray, List.getElem?_append_left (by simpa using hi), List.getElem?_map, List.getElem?_map, hv]
    rfl
  generalize (lg_sl (av.map (a_cv V)) ++ List.replicate (i_nL I - (lg_sl (av.map (a_cv V))).length) Slot.unset).toArray = lsC at hentry hargs ⊢
  have hpost : ∀ (H : Heap) (locs : List Loc) (h : a_H) (ws : va_W) (tys : List (ClassId × FieldType)) (v : Option Value), a_HP V h.2 H s ws tys → va_S (a_A V) s.heap H locs → Q (.inl v) h → ∀ t : State, t.heap = H → s.WarmedH t.vm → a_Qc V Q (av.map (a_cv V)).toArray s (.returned (v.map (a_cv V))) t :=
    fun H locs h ws tys v a1 a2 a3 t ht hW => ⟨⟨v, h, rfl, a3, ws, tys, by rw [ht]; exact a1.moved hW.alike⟩, a2.F ht⟩
  refine k V p l e _ s m _ below meth c s.heap [] _ ws tys lsC ⟨B.exec, B.bytes, hml, by rw [hown]; exact findClass_of_methodNamed B.named, fun w hw => hts w (List.mem_cons_of_mem _ hw), hlocks, hl, ⟨Nat.le_refl _, Nat.le_refl _, rfl, rfl⟩, by rw [hno, hnh]; rfl,
    fun z => (name_of_methodNamed B.named B.method).1.trans (hini z), hX, hB, fun q hq => by rw [hxs] at hq; cases hq⟩ ⟨?_, ?_, ?_⟩ (fun z => hcl z) hP va_S.rf (Nat.zero_le _) (Nat.zero_le _) ⟨hentry.1, hentry.2.1, ?_⟩
  · intro H locs h ws tys pc ls v a1 a2 a3 a4 a5
    have hq := hpost H locs h ws tys v a1 a2 a3
    match v, a4, a5, hq with
    | none, a4, a5, hq => exact vx_ret (W.vret B.exec B.bytes (B.returns.trans a5) hq a2.2.2 a4 hlocks)
    | some (.int x), a4, a5, hq => obtain ⟨ty, b1, b2⟩ := a5; exact vx_ret (W.zret B.exec B.bytes (B.returns.trans b1) b2 hq a2.2.2 a4 hlocks)
    | some (.long x), a4, a5, hq => exact vx_ret (W.lret B.exec B.bytes (B.returns.trans a5) hq a2.2.2 a4 hlocks)
    | some (.float x), a4, a5, hq => exact vx_ret (W.fret B.exec B.bytes (B.returns.trans a5) hq a2.2.2 a4 hlocks)
  · intro _ H locs h ws tys pc ls rest E ce q a1 a2 a3 a4 a5 a6
    exact vx_out (by rw [hno]; intro x hx; cases hx) hlocks a4 a5 a6 (fun t ht hal => ⟨⟨h, a3, ws, tys, by rw [ht]; exact a1.moved hal⟩, a2.F ht⟩) a2.2.2 (Nat.le_refl _) (Nat.le_refl _)
  · intro _ H locs h ws tys pc ls rest E uc us a1 a2 a3 a4 a5 a6 a7 a8 a9
    obtain ⟨ik, is, ic, tx, hE, w1, w2, w3, w4, d0, d3, dd⟩ := a4
    obtain ⟨sa, hsa⟩ := hX.2.2.2.2.1 _ _ _ w3
    have hgood : ∀ w ∈ Cond.classLink (i_own I) ik E :: Cond.initialized E :: vx_atS (i_own I) ic E ["java/lang/RuntimeException", "java/lang/Exception"], vx_ot w = true := by
      intro w hw
      rcases List.mem_cons.mp hw with rfl | hw
      · exact a_good_ot (a_GT_good _ w1)
      · rcases List.mem_cons.mp hw with rfl | hw
        · exact a_good_ot (a_GT_good _ w2)
        · rcases w4 w hw with g | g
          · exact a_good_ot (a_GT_good _ g)
          · exact a_tb_ot g.2
    have hat : ∀ w ∈ vx_atS (i_own I) ic E ["java/lang/RuntimeException", "java/lang/Exception"], w.before (av.map (a_cv V)).toArray s = true := by
      intro w hw
      rcases w4 w hw with g | g
      · exact hts w (List.mem_cons_of_mem _ g)
      · have g2 := hX.2.2.2.2.2.2.2.2.2 w g.1
        have g3 := a_tb_ot g.2
        exact vx_ot_at (State.WarmedH.refl s) rfl g3 g2
    have hx : ∀ t : State, s.vm.Alike t.vm → H.size ≤ t.heap.size → (∀ q : Nat, q < H.size → t.heap[q]? = H[q]?) → a_XC V Q E s t := by
      intro t hal hz hk
      refine ⟨⟨(false, h.2), a3, ws, tys, a1.1, a1.2.1.kept (fun j q hq => hk _ (a1.2.1 j q hq).lt), a1.2.2.1, va_K.moved hal a1.2.2.2⟩, Nat.le_trans a2.1 hz, fun q g1 g2 => ?_⟩
      rw [hk q (Nat.lt_of_lt_of_le g1 a2.1)]
      exact a2.2.1 q g1 g2
    rcases dd with ⟨d4, d6, d9⟩ | ⟨d4, d6, d9⟩
    · exact vx_throwS B.exec B.bytes hl (by rw [hown]; exact findClass_of_methodNamed B.named) (a_atS_ok E hE) a_atS_nm (hts _ (List.mem_cons_of_mem _ w1)) (hts _ (List.mem_cons_of_mem _ w2)) hsa hat hgood hX.2.2.2.2.2.1 hX.2.2.2.2.2.2.1 a2 a9 d0 d3 d4 d6 d9 (by rw [hno]; intro x hx; cases hx)
        (by show 2 + 3 < i_d I; omega) (by show _ + (13 * (2 + 1) + 43) ≤ 60 * i_d I; omega) a7 a8 hlocks hx a2.2.2 a7 a8
    · exact vx_throwSW B.exec B.bytes hl (by rw [hown]; exact findClass_of_methodNamed B.named) (a_atS_ok E hE) a_atS_nm (hts _ (List.mem_cons_of_mem _ w1)) (hts _ (List.mem_cons_of_mem _ w2)) hsa hat hgood hX.2.2.2.2.2.1 hX.2.2.2.2.2.2.1 a2 a9 d0 d3 d4 d6 d9 (by rw [hno]; intro x hx; cases hx)
        (by show 2 + 3 < i_d I; omega) (by show _ + (13 * (2 + 1) + 43) ≤ 60 * i_d I; omega) a7 a8 hlocks hx a2.2.2 a7 a8
  · intro i v hi hv
    by_cases hil : i < av.length
    · rw [List.getElem?_append_left hil] at hi
      exact hargs i v hi
    · rw [List.getElem?_append_right (by omega)] at hi
      exact absurd (List.eq_of_mem_replicate (List.mem_of_getElem? hi)) hv
end
section
/-! ===== BEGIN a constructor that throws (launches without stack traces) ===== -/
section VXIA
variable {p : Program} {l : Launch} {e : Env} {R : Room} {s : State} {m : MethodId} {args : Array Value} {below : List Frame} {meth : Method} {c : Code} {T : State} {locs : List Loc} {cells slots : Nat}
theorem vx_callI (X : Stand p l e R s m args below meth c T locs cells slots) (hexec : p.tables.exec = Jvm.exec) {own : String} {index : Nat} {y : MethodName} {bytes : ByteArray} {maxL : Nat}
    (hown : s.vm.findClass own = some m.cls) (hy1 : y.name = "<init>") (hlink : (Cond.methodLink own index y).before args s = true) (hinst : (Cond.instanceMethod y).before args s = true)
    (hcode : (Cond.code y bytes maxL none).before args s = true) (hy : y.cls ≠ "java/lang/invoke/MethodHandle" ∧ y.cls ≠ "java/lang/invoke/VarHandle")
    {W9 : Nat} {Pre : Pt → Array Value → Prop} {Post : Pt → Array Value → Option Value → Pt → Prop} {PostX : Pt → Array Value → Addr → Pt → Prop} (hK : vx_Back l R p e below s args y 3 W9 Pre Post PostX)
    {g : JFrame} (hg : g.method = m) (hsize : g.locals.size = c.maxLocals) {a : Addr} {argsL rest : List Value} (hlen : ∀ sig, parseMethodDescriptor y.desc = some sig → argsL.length = sig.parameters.length)
    (hstack : g.stack = argsL.reverse ++ .ref a :: rest) (hW : 2 * g.monitorRoom + (rest.map fun v => v.category).sum ≤ W9) (hdg : decode c.code g.pc = .ok (.invokespecial index, 3))
    (hpre : ∀ vm₁, s.WarmedH vm₁ → Pre ⟨T.setVm vm₁, locs, cells, slots⟩ (Value.ref a :: argsL).toArray) :
    (∃ (v : Option Value) (vm₁ : Vm) (B : Pt), s.WarmedH vm₁ ∧ Stand p l e R s m args below meth c B.U B.locs B.cells B.slots ∧ Post ⟨T.setVm vm₁, locs, cells, slots⟩ (Value.ref a :: argsL).toArray v B ∧
      ∀ target, Steps p.tables e below (B.U.setTop { g with pc := g.pc + 3, stack := v.toList ++ rest }) target → Steps p.tables e below (T.setTop g) target) ∨
    (∃ (q : Addr) (vm₁ : Vm) (B : Pt), s.WarmedH vm₁ ∧ Stand p l e R s m args below meth c B.U B.locs B.cells B.slots ∧ PostX ⟨T.setVm vm₁, locs, cells, slots⟩ (Value.ref a :: argsL).toArray q B ∧
      Steps p.tables e below (T.setTop g) ((B.U.setTop { g with stack := rest }).pushFrame (.throwing q))) := by
  subst hg
  have hpl : e.platform.magicAccessors = ({} : Platform).magicAccessors := by rw [X.admits.platform]
  obtain ⟨mk, methM, cM, kP, vm₁, hnamed, hmethM, hcodeM, -, hlocalsM, -, hkP, -, hW₁, hstep₁⟩ := Steps.initColdArgs (e := e) X.here hexec X.warmed hpl hown hy1 hy hlink hinst hcode (f := g) rfl hlen hstack hdg
  have X₁ := X.noted hW₁
  rcases hK g.method meth c ⟨T.setVm vm₁, locs, cells, slots⟩ { g with stack := rest } (.invokespecial index) mk (Value.ref a :: argsL).toArray X₁ rfl hsize hdg hW (X₁.named hnamed) (hpre vm₁ X₁.warmed) with ⟨v, B, X', hpost, hsteps⟩ | ⟨q, B, X', hpost, hsteps⟩
  · exact Or.inl ⟨v, vm₁, B, X₁.warmed, X', hpost, fun target h => hstep₁ _ fun acts => by rw [doInvoke_state]; exact hsteps.trans h⟩
  · exact Or.inr ⟨q, vm₁, B, X₁.warmed, X', hpost, hstep₁ _ fun acts => by rw [doInvoke_state]; exact hsteps⟩
end VXIA
section VXIB
variable {p : Program} {l : Launch} {e : Env} {R : Room} {s : State} {m : MethodId} {args : Array Value} {below : List Frame} {meth : Method} {c : Code} {H : Heap} {locs : List Loc} {cells slots : Nat}
variable {y : MethodName} {bytes cc : ByteArray} {maxL nL mc ms n index : Nat} {ret : Option FieldType} {ws : List Cond} {rm : Room} {Pc : Array Value → State → Prop} {Qc : Array Value → State → Outcome → State → Prop} {XC : String → State → State → Prop} {free : Addr → Prop} {Ts : List Cond} {own C : String} {b : Addr} {As rest : List Value} {g : JFrame}
theorem vx_runI (S : CallFix p m c cc nL s args Ts own) (hM : vx_Met l y ws rm Pc Qc XC mc ms free) (cw : CallB R s args own index y bytes maxL none ws rm mc ms n ∧ y.name = "<init>" ∧ (Cond.instanceMethod y).before args s = true) (hp : PreS s H Pc (.ref b :: As))
    (hg : g.method = m) (hn : As.length = n) (hsize : g.locals.size = nL) (hstack : g.stack = As.reverse ++ .ref b :: rest) (hW : 2 * g.monitorRoom + (rest.map fun v => v.category).sum ≤ 8) (hdg : decode cc g.pc = .ok (.invokespecial index, 3)) (hf : cells + mc ≤ R.cells ∧ slots + ms ≤ R.slots) :
    vx_Run p l e R s m args below meth c H locs cells slots mc ms g rest (Qc (Value.ref b :: As).toArray) XC free := by
  have hK : vx_Back l R p e below s args y 3 8 (PreOf R mc ms Pc) (PostOf Qc mc ms free) (vx_Post XC mc ms free) := vx_callBack cw.1 hM hp.1
  obtain ⟨⟨-, -, -, -, -, -, hcode, -, hy, hlen, hl⟩, hy1, hin⟩ := cw
  obtain ⟨hx, hb, hml, ho, -⟩ := S
  have hPc := hp.2
  intro T hT X
  rcases vx_callI X hx (bytes := bytes) (maxL := maxL) ho hy1 hl hin hcode hy hK hg (hsize.trans hml.symm) (a := b) (argsL := As) (rest := rest) (fun sig h => hn.trans (hlen sig h)) hstack hW (by rw [hb]; exact hdg)
    (fun vm₁ hW₁ => ⟨hf.1, hf.2, hPc (T.setVm vm₁) hT hW₁⟩) with ⟨v, vm₁, ⟨U', l2, c2, s2⟩, hW₁, X', ⟨g', mk, t, L, e1, e2, hq, h1, hL, h2, h3⟩, st⟩ | ⟨q, vm₁, ⟨U', l2, c2, s2⟩, hW₁, X', ⟨g', mk, t, L, E, ce, e1, e2, hq, hce, hcv, hcl, h1, hL, h2, h3⟩, st⟩
  · dsimp only [Pt.U, Pt.locs, Pt.cells, Pt.slots] at X' e1 e2 h1 h2 h3 st
    subst h1; subst h2; subst h3
    exact Or.inl ⟨v, (T.setVm vm₁).calling g' mk (Value.ref b :: As).toArray, t, U', L, hT, X', hL, e1, e2, hq, st⟩
  · dsimp only [Pt.U, Pt.locs, Pt.cells, Pt.slots] at X' e1 e2 h1 h2 h3 st hcl
    subst h1; subst h2; subst h3
    exact Or.inr ⟨q, (T.setVm vm₁).calling g' mk (Value.ref b :: As).toArray, t, U', L, E, ce, hT, X', hL, e1, e2, hq, hce, hcv, vx_cls hW₁ hcl, st⟩
end VXIB
/-! ===== END ===== -/
/-! ===== BEGIN a private constructor of a nest mate that throws ===== -/
section VXIC
variable {p : Program} {l : Launch} {e : Env} {R : Room} {s : State} {m : MethodId} {args : Array Value} {below : List Frame} {meth : Method} {c : Code} {T : State} {locs : List Loc} {cells slots : Nat}
theorem vx_callIN (X : Stand p l e R s m args below meth c T locs cells slots) (hexec : p.tables.exec = Jvm.exec) {own : String} {index : Nat} {host : String} {y : MethodName} {bytes : ByteArray} {maxL : Nat}
    (hown : s.vm.findClass own = some m.cls) (hy1 : y.name = "<init>") (hlink : (Cond.methodLinkNest own index y host).before args s = true) (hinst : (Cond.instanceMethod y).before args s = true)
    (hcode : (Cond.code y bytes maxL none).before args s = true) (hy : y.cls ≠ "java/lang/invoke/MethodHandle" ∧ y.cls ≠ "java/lang/invoke/VarHandle")
    {W9 : Nat} {Pre : Pt → Array Value → Prop} {Post : Pt → Array Value → Option Value → Pt → Prop} {PostX : Pt → Array Value → Addr → Pt → Prop} (hK : vx_Back l R p e below s args y 3 W9 Pre Post PostX)
    {g : JFrame} (hg : g.method = m) (hsize : g.locals.size = c.maxLocals) {a : Addr} {argsL rest : List Value} (hlen : ∀ sig, parseMethodDescriptor y.desc = some sig → argsL.length = sig.parameters.length)
    (hstack : g.stack = argsL.reverse ++ .ref a :: rest) (hW : 2 * g.monitorRoom + (rest.map fun v => v.category).sum ≤ W9) (hdg : decode c.code g.pc = .ok (.invokespecial index, 3))
    (hpre : ∀ vm₁, s.WarmedH vm₁ → Pre ⟨T.setVm vm₁, locs, cells, slots⟩ (Value.ref a :: argsL).toArray) :
    (∃ (v : Option Value) (vm₁ : Vm) (B : Pt), s.WarmedH vm₁ ∧ Stand p l e R s m args below meth c B.U B.locs B.cells B.slots ∧ Post ⟨T.setVm vm₁, locs, cells, slots⟩ (Value.ref a :: argsL).toArray v B ∧
      ∀ target, Steps p.tables e below (B.U.setTop { g with pc := g.pc + 3, stack := v.toList ++ rest }) target → Steps p.tables e below (T.setTop g) target) ∨
    (∃ (q : Addr) (vm₁ : Vm) (B : Pt), s.WarmedH vm₁ ∧ Stand p l e R s m args below meth c B.U B.locs B.cells B.slots ∧ PostX ⟨T.setVm vm₁, locs, cells, slots⟩ (Value.ref a :: argsL).toArray q B ∧
      Steps p.tables e below (T.setTop g) ((B.U.setTop { g with stack := rest }).pushFrame (.throwing q))) := by
  subst hg
  have hpl : e.platform.magicAccessors = ({} : Platform).magicAccessors := by rw [X.admits.platform]
  obtain ⟨mk, methM, cM, kP, vm₁, hnamed, hmethM, hcodeM, -, hlocalsM, -, hkP, -, hW₁, hstep₁⟩ := Steps.initColdArgsNest (e := e) X.here hexec X.warmed hpl hown hy1 hy hlink hinst hcode (f := g) rfl hlen hstack hdg
  have X₁ := X.noted hW₁
  rcases hK g.method meth c ⟨T.setVm vm₁, locs, cells, slots⟩ { g with stack := rest } (.invokespecial index) mk (Value.ref a :: argsL).toArray X₁ rfl hsize hdg hW (X₁.named hnamed) (hpre vm₁ X₁.warmed) with ⟨v, B, X', hpost, hsteps⟩ | ⟨q, B, X', hpost, hsteps⟩
  · exact Or.inl ⟨v, vm₁, B, X₁.warmed, X', hpost, fun target h => hstep₁ _ fun acts => by rw [doInvoke_state]; exact hsteps.trans h⟩
  · exact Or.inr ⟨q, vm₁, B, X₁.warmed, X', hpost, hstep₁ _ fun acts => by rw [doInvoke_state]; exact hsteps⟩
end VXIC
section VXID
variable {p : Program} {l : Launch} {e : Env} {R : Room} {s : State} {m : MethodId} {args : Array Value} {below : List Frame} {meth : Method} {c : Code} {H : Heap} {locs : List Loc} {cells slots : Nat}
theorem vx_runIN {y : MethodName} {bytes cc : ByteArray} {maxL nL mc ms n index : Nat} {ws : List Cond} {rm : Room} {Pc : Array Value → State → Prop} {Qc : Array Value → State → Outcome → State → Prop} {XC : String → State → State → Prop} {free : Addr → Prop} {Ts : List Cond} {own host : String} {b : Addr} {As rest : List Value} {g : JFrame}
    (S : CallFix p m c cc nL s args Ts own) (hM : vx_Met l y ws rm Pc Qc XC mc ms free) (cw : va_CN R s args own index y host bytes maxL none ws rm mc ms n ∧ y.name = "<init>" ∧ (Cond.instanceMethod y).before args s = true) (hp : PreS s H Pc (.ref b :: As))
    (hg : g.method = m) (hn : As.length = n) (hsize : g.locals.size = nL) (hstack : g.stack = As.reverse ++ .ref b :: rest) (hW : 2 * g.monitorRoom + (rest.map fun v => v.category).sum ≤ 8) (hdg : decode cc g.pc = .ok (.invokespecial index, 3)) (hf : cells + mc ≤ R.cells ∧ slots + ms ≤ R.slots) :
    vx_Run p l e R s m args below meth c H locs cells slots mc ms g rest (Qc (Value.ref b :: As).toArray) XC free := by
  obtain ⟨⟨⟨hrc, hrs, hfr, hlo, hws, hcw⟩, hcode, hini, hy, hlen, hl⟩, hx1, hx2⟩ := cw
  have hK : vx_Back l R p e below s args y 3 8 (PreOf R mc ms Pc) (PostOf Qc mc ms free) (vx_Post XC mc ms free) := vx_back (bytes := bytes) (maxL := maxL) (ret := none) hM hp.1 hrc hrs hfr hlo hws hcw (fun a' U hW => word_at hW (Or.inl (by first | rfl | simp [Cond.onTables, Cond.keeps, Cond.steady])) hini)
  obtain ⟨hx, hb, hml, ho, -⟩ := S
  have hPc := hp.2
  intro T hT X
  rcases vx_callIN X hx (bytes := bytes) (maxL := maxL) ho hx1 hl hx2 hcode hy hK hg (hsize.trans hml.symm) (a := b) (argsL := As) (rest := rest) (fun sig h => hn.trans (hlen sig h)) hstack hW (by rw [hb]; exact hdg)
    (fun vm₁ hW₁ => ⟨hf.1, hf.2, hPc (T.setVm vm₁) hT hW₁⟩) with ⟨v, vm₁, ⟨U', l2, c2, s2⟩, hW₁, X', ⟨g', mk, t, L, e1, e2, hq, h1, hL, h2, h3⟩, st⟩ | ⟨q, vm₁, ⟨U', l2, c2, s2⟩, hW₁, X', ⟨g', mk, t, L, E, ce, e1, e2, hq, hce, hcv, hcl, h1, hL, h2, h3⟩, st⟩
  · dsimp only [Pt.U, Pt.locs, Pt.cells, Pt.slots] at X' e1 e2 h1 h2 h3 st
    subst h1; subst h2; subst h3
    exact Or.inl ⟨v, (T.setVm vm₁).calling g' mk (Value.ref b :: As).toArray, t, U', L, hT, X', hL, e1, e2, hq, st⟩
  · dsimp only [Pt.U, Pt.locs, Pt.cells, Pt.slots] at X' e1 e2 h1 h2 h3 st hcl
    subst h1; subst h2; subst h3
    exact Or.inr ⟨q, (T.setVm vm₁).calling g' mk (Value.ref b :: As).toArray, t, U', L, E, ce, hT, X', hL, e1, e2, hq, hce, hcv, vx_cls hW₁ hcl, st⟩
end VXID
/-! ===== BEGIN a private method of a nest mate that may throw (follows va_callVN, va_callSN, va_runVN, va_runSN) ===== -/
section
variable {p : Program} {l : Launch} {e : Env} {R : Room} {s : State} {m : MethodId} {args : Array Value} {below : List Frame} {meth : Method} {c : Code} {H : Heap} {locs : List Loc} {cells slots : Nat}
variable {T : State}
theorem vx_callVN (X : Stand p l e R s m args below meth c T locs cells slots) (hexec : p.tables.exec = Jvm.exec) {own C : String} {index : Nat} {host : String} {y : MethodName} {bytes : ByteArray} {maxL : Nat} {ret : Option FieldType}
    (hown : s.vm.findClass own = some m.cls) (hlink : (Cond.methodLinkNest own index y host).before args s = true) (hinst : (Cond.instanceMethod y).before args s = true) (hsel : (Cond.selects C y y).before args s = true)
    (hcode : (Cond.code y bytes maxL ret).before args s = true) (hy : y.cls ≠ "java/lang/invoke/MethodHandle" ∧ y.cls ≠ "java/lang/invoke/VarHandle")
    {W : Nat} {Pre : Pt → Array Value → Prop} {Post : Pt → Array Value → Option Value → Pt → Prop} {PostX : Pt → Array Value → Addr → Pt → Prop} (hK : vx_Back l R p e below s args y 3 W Pre Post PostX)
    {b : Addr} {cellB : Cell} (hcell : T.heap[b]? = some cellB) (hobj : cellB.vm.isStatics = false) (hcls : s.vm.findClass C = some cellB.cls)
    {g : JFrame} (hg : g.method = m) (hsize : g.locals.size = c.maxLocals) {argsL rest : List Value} (hlen : ∀ sig, parseMethodDescriptor y.desc = some sig → argsL.length = sig.parameters.length)
    (hstack : g.stack = argsL.reverse ++ .ref b :: rest) (hW : 2 * g.monitorRoom + (rest.map fun v => v.category).sum ≤ W) (hdg : decode c.code g.pc = .ok (.invokevirtual index, 3))
    (hpre : ∀ vm₁, s.WarmedH vm₁ → Pre ⟨T.setVm vm₁, locs, cells, slots⟩ (Value.ref b :: argsL).toArray) :
    (∃ (v : Option Value) (vm₁ : Vm) (B : Pt), s.WarmedH vm₁ ∧ Stand p l e R s m args below meth c B.U B.locs B.cells B.slots ∧ Post ⟨T.setVm vm₁, locs, cells, slots⟩ (Value.ref b :: argsL).toArray v B ∧
      ∀ target, Steps p.tables e below (B.U.setTop { g with pc := g.pc + 3, stack := v.toList ++ rest }) target → Steps p.tables e below (T.setTop g) target) ∨
    (∃ (q : Addr) (vm₁ : Vm) (B : Pt), s.WarmedH vm₁ ∧ Stand p l e R s m args below meth c B.U B.locs B.cells B.slots ∧ PostX ⟨T.setVm vm₁, locs, cells, slots⟩ (Value.ref b :: argsL).toArray q B ∧
      Steps p.tables e below (T.setTop g) ((B.U.setTop { g with stack := rest }).pushFrame (.throwing q))) := by
  obtain ⟨mk, methM, hnamed, hmethM, hstM, habM⟩ := Cond.instanceMethod_spec hinst
  obtain ⟨methM', cM, hmethM', -, -, -, -, -, -, hsigM⟩ := Cond.code_spec hnamed hcode
  cases hmethM.symm.trans hmethM'
  obtain ⟨c2, r2, m2, q1, q2, q3, q4, kP, hkP, hkPi⟩ := Cond.selects_spec hsel
  cases hcls.symm.trans q1
  cases (State.methodFound?_of_named hnamed hy).symm.trans q2
  cases hnamed.symm.trans q3
  have hselP : selectMethod e.platform s.vm cellB.cls mk = .method mk := by rw [Launch.admits_selectMethod X.admits]; exact q4
  obtain ⟨vm₁, X₁, hstep₁⟩ := X.invokevirtualNest hexec hown hlink hnamed hmethM hstM hkP hkPi hy (a := b) (cell := cellB) hcell
    (fun z h => by rw [h] at hobj; cases hobj) hselP hmethM habM hkP hkPi (g := g) hg (argsL := argsL) (rest := rest) (hlen _ hsigM) hstack hdg
  rcases hK m meth c ⟨T.setVm vm₁, locs, cells, slots⟩ { g with stack := rest } (.invokevirtual index) mk (Value.ref b :: argsL).toArray X₁ hg hsize hdg hW (X₁.named hnamed) (hpre vm₁ X₁.warmed) with ⟨v, B, X', hpost, hsteps⟩ | ⟨q, B, X', hpost, hsteps⟩
  · exact Or.inl ⟨v, vm₁, B, X₁.warmed, X', hpost, fun target h => hstep₁ _ fun acts => by rw [doInvoke_state]; exact hsteps.trans h⟩
  · exact Or.inr ⟨q, vm₁, B, X₁.warmed, X', hpost, hstep₁ _ fun acts => by rw [doInvoke_state]; exact hsteps⟩
theorem vx_callSN (X : Stand p l e R s m args below meth c T locs cells slots) (hexec : p.tables.exec = Jvm.exec) {own : String} {index : Nat} {host : String} {y : MethodName} {bytes : ByteArray} {maxL : Nat} {ret : Option FieldType}
    (hown : s.vm.findClass own = some m.cls) (hlink : (Cond.methodLinkNest own index y host).before args s = true) (hstat : (Cond.static y).before args s = true) (hinit : (Cond.initialized y.cls).before args s = true)
    (hcode : (Cond.code y bytes maxL ret).before args s = true) (hy : y.cls ≠ "java/lang/invoke/MethodHandle" ∧ y.cls ≠ "java/lang/invoke/VarHandle")
    {W : Nat} {Pre : Pt → Array Value → Prop} {Post : Pt → Array Value → Option Value → Pt → Prop} {PostX : Pt → Array Value → Addr → Pt → Prop} (hK : vx_Back l R p e below s args y 3 W Pre Post PostX)
    {g : JFrame} (hg : g.method = m) (hsize : g.locals.size = c.maxLocals) {argsL rest : List Value} (hlen : ∀ sig, parseMethodDescriptor y.desc = some sig → argsL.length = sig.parameters.length)
    (hstack : g.stack = argsL.reverse ++ rest) (hW : 2 * g.monitorRoom + (rest.map fun v => v.category).sum ≤ W) (hdg : decode c.code g.pc = .ok (.invokestatic index, 3))
    (hpre : ∀ vm₁, s.WarmedH vm₁ → Pre ⟨T.setVm vm₁, locs, cells, slots⟩ argsL.toArray) :
    (∃ (v : Option Value) (vm₁ : Vm) (B : Pt), s.WarmedH vm₁ ∧ Stand p l e R s m args below meth c B.U B.locs B.cells B.slots ∧ Post ⟨T.setVm vm₁, locs, cells, slots⟩ argsL.toArray v B ∧
      ∀ target, Steps p.tables e below (B.U.setTop { g with pc := g.pc + 3, stack := v.toList ++ rest }) target → Steps p.tables e below (T.setTop g) target) ∨
    (∃ (q : Addr) (vm₁ : Vm) (B : Pt), s.WarmedH vm₁ ∧ Stand p l e R s m args below meth c B.U B.locs B.cells B.slots ∧ PostX ⟨T.setVm vm₁, locs, cells, slots⟩ argsL.toArray q B ∧
      Steps p.tables e below (T.setTop g) ((B.U.setTop { g with stack := rest }).pushFrame (.throwing q))) := by
  obtain ⟨mk, hnamed⟩ := Cond.code_named hcode
  obtain ⟨methM, cM, hmethM, -, -, -, -, -, -, hsigM⟩ := Cond.code_spec hnamed hcode
  have hstatic : methM.isStatic = true := Cond.static_spec hnamed hmethM hstat
  obtain ⟨kP, hkP, -⟩ := className_of_methodNamed hnamed
  have hinitP : kP.init = .initialized := Cond.initialized_spec (findClass_of_methodNamed hnamed) hkP hinit
  obtain ⟨vm₁, X₁, hstep₁⟩ := X.invokestaticNest hexec hown hlink hnamed hmethM hstatic hkP hinitP hy (g := g) hg (argsL := argsL) (rest := rest) (hlen _ hsigM) hstack hdg
  rcases hK m meth c ⟨T.setVm vm₁, locs, cells, slots⟩ { g with stack := rest } (.invokestatic index) mk argsL.toArray X₁ hg hsize hdg hW (X₁.named hnamed) (hpre vm₁ X₁.warmed) with ⟨v, B, X', hpost, hsteps⟩ | ⟨q, B, X', hpost, hsteps⟩
  · exact Or.inl ⟨v, vm₁, B, X₁.warmed, X', hpost, fun target h => hstep₁ _ fun acts => by rw [doInvoke_state]; exact hsteps.trans h⟩
  · exact Or.inr ⟨q, vm₁, B, X₁.warmed, X', hpost, hstep₁ _ fun acts => by rw [doInvoke_state]; exact hsteps⟩
theorem vx_runVN {y : MethodName} {bytes cc : ByteArray} {maxL nL mc ms n index : Nat} {ret : Option FieldType} {ws : List Cond} {rm : Room} {Pc : Array Value → State → Prop} {Qc : Array Value → State → Outcome → State → Prop} {XC : String → State → State → Prop} {free : Addr → Prop} {Ts : List Cond} {own C host : String} {b : Addr} {As rest : List Value} {g : JFrame}
    (S : CallFix p m c cc nL s args Ts own) (hM : vx_Met l y ws rm Pc Qc XC mc ms free) (cw : va_CN R s args own index y host bytes maxL ret ws rm mc ms n ∧ (Cond.instanceMethod y).before args s = true ∧ (Cond.selects C y y).before args s = true) (hp : PreV s H C b Pc As)
    (hg : g.method = m) (hn : As.length = n) (hsize : g.locals.size = nL) (hstack : g.stack = As.reverse ++ .ref b :: rest) (hW : 2 * g.monitorRoom + (rest.map fun v => v.category).sum ≤ 8) (hdg : decode cc g.pc = .ok (.invokevirtual index, 3)) (hf : cells + mc ≤ R.cells ∧ slots + ms ≤ R.slots) :
    vx_Run p l e R s m args below meth c H locs cells slots mc ms g rest (Qc (Value.ref b :: As).toArray) XC free := by
  obtain ⟨⟨⟨hrc, hrs, hfr, hlo, hws, hcw⟩, hcode, hini, hy, hlen, hl⟩, hx1, hx2⟩ := cw
  have hK : vx_Back l R p e below s args y 3 8 (PreOf R mc ms Pc) (PostOf Qc mc ms free) (vx_Post XC mc ms free) := vx_back (bytes := bytes) (maxL := maxL) (ret := ret) hM hp.1 hrc hrs hfr hlo hws hcw (fun a' U hW => word_at hW (Or.inl (by first | rfl | simp [Cond.onTables, Cond.keeps, Cond.steady])) hini)
  obtain ⟨hx, hb, hml, ho, -⟩ := S
  obtain ⟨-, ⟨cellB, hcB, hoB, hclB⟩, hPc⟩ := hp
  intro T hT X
  rcases vx_callVN X hx (C := C) (bytes := bytes) (maxL := maxL) (ret := ret) ho hl hx1 hx2 hcode hy hK (by rw [hT]; exact hcB) hoB hclB hg (hsize.trans hml.symm) (argsL := As) (rest := rest) (fun sig h => hn.trans (hlen sig h)) hstack hW (by rw [hb]; exact hdg)
    (fun vm₁ hW₁ => ⟨hf.1, hf.2, hPc (T.setVm vm₁) hT hW₁⟩) with ⟨v, vm₁, ⟨U', l2, c2, s2⟩, hW₁, X', ⟨g', mk, t, L, e1, e2, hq, h1, hL, h2, h3⟩, st⟩ | ⟨q, vm₁, ⟨U', l2, c2, s2⟩, hW₁, X', ⟨g', mk, t, L, E, ce, e1, e2, hq, hce, hcv, hcl, h1, hL, h2, h3⟩, st⟩
  · dsimp only [Pt.U, Pt.locs, Pt.cells, Pt.slots] at X' e1 e2 h1 h2 h3 st
    subst h1; subst h2; subst h3
    exact Or.inl ⟨v, (T.setVm vm₁).calling g' mk (Value.ref b :: As).toArray, t, U', L, hT, X', hL, e1, e2, hq, st⟩
  · dsimp only [Pt.U, Pt.locs, Pt.cells, Pt.slots] at X' e1 e2 h1 h2 h3 st hcl
    subst h1; subst h2; subst h3
    exact Or.inr ⟨q, (T.setVm vm₁).calling g' mk (Value.ref b :: As).toArray, t, U', L, E, ce, hT, X', hL, e1, e2, hq, hce, hcv, vx_cls hW₁ hcl, st⟩
theorem vx_runSN {y : MethodName} {bytes cc : ByteArray} {maxL nL mc ms n index : Nat} {ret : Option FieldType} {ws : List Cond} {rm : Room} {Pc : Array Value → State → Prop} {Qc : Array Value → State → Outcome → State → Prop} {XC : String → State → State → Prop} {free : Addr → Prop} {Ts : List Cond} {own host : String} {As rest : List Value} {g : JFrame}
    (S : CallFix p m c cc nL s args Ts own) (hM : vx_Met l y ws rm Pc Qc XC mc ms free) (cw : va_CN R s args own index y host bytes maxL ret ws rm mc ms n ∧ (Cond.static y).before args s = true ∧ True) (hp : PreS s H Pc As)
    (hg : g.method = m) (hn : As.length = n) (hsize : g.locals.size = nL) (hstack : g.stack = As.reverse ++ rest) (hW : 2 * g.monitorRoom + (rest.map fun v => v.category).sum ≤ 8) (hdg : decode cc g.pc = .ok (.invokestatic index, 3)) (hf : cells + mc ≤ R.cells ∧ slots + ms ≤ R.slots) :
    vx_Run p l e R s m args below meth c H locs cells slots mc ms g rest (Qc As.toArray) XC free := by
  obtain ⟨⟨⟨hrc, hrs, hfr, hlo, hws, hcw⟩, hcode, hini, hy, hlen, hl⟩, hx1, hx2⟩ := cw
  have hK : vx_Back l R p e below s args y 3 8 (PreOf R mc ms Pc) (PostOf Qc mc ms free) (vx_Post XC mc ms free) := vx_back (bytes := bytes) (maxL := maxL) (ret := ret) hM hp.1 hrc hrs hfr hlo hws hcw (fun a' U hW => word_at hW (Or.inl (by first | rfl | simp [Cond.onTables, Cond.keeps, Cond.steady])) hini)
  obtain ⟨hx, hb, hml, ho, -⟩ := S
  have hPc := hp.2
  intro T hT X
  rcases vx_callSN X hx (bytes := bytes) (maxL := maxL) (ret := ret) ho hl hx1 hini hcode hy hK hg (hsize.trans hml.symm) (argsL := As) (rest := rest) (fun sig h => hn.trans (hlen sig h)) hstack hW (by rw [hb]; exact hdg)
    (fun vm₁ hW₁ => ⟨hf.1, hf.2, hPc (T.setVm vm₁) hT hW₁⟩) with ⟨v, vm₁, ⟨U', l2, c2, s2⟩, hW₁, X', ⟨g', mk, t, L, e1, e2, hq, h1, hL, h2, h3⟩, st⟩ | ⟨q, vm₁, ⟨U', l2, c2, s2⟩, hW₁, X', ⟨g', mk, t, L, E, ce, e1, e2, hq, hce, hcv, hcl, h1, hL, h2, h3⟩, st⟩
  · dsimp only [Pt.U, Pt.locs, Pt.cells, Pt.slots] at X' e1 e2 h1 h2 h3 st
    subst h1; subst h2; subst h3
    exact Or.inl ⟨v, (T.setVm vm₁).calling g' mk As.toArray, t, U', L, hT, X', hL, e1, e2, hq, st⟩
  · dsimp only [Pt.U, Pt.locs, Pt.cells, Pt.slots] at X' e1 e2 h1 h2 h3 st hcl
    subst h1; subst h2; subst h3
    exact Or.inr ⟨q, (T.setVm vm₁).calling g' mk As.toArray, t, U', L, E, ce, hT, X', hL, e1, e2, hq, hce, hcv, vx_cls hW₁ hcl, st⟩
end
end
section
set_option maxHeartbeats 4000000 in
/-- .. of a body with handlers, that throws nothing -/
theorem a_metH {y : MethodName} {I : a_I} {av : List Value} {h : a_H} {Q : a_Q} (hy : plainName y.cls = true) (hown : i_own I = y.cls) (hnh : i_hh I ≠ []) (hlen : av.length ≤ i_nL I) (hcat : ∀ v ∈ av, v.category = 1) (hini : i_ini I = true → y.name = "<init>") (hxs : i_xs I = none)
    (k : AW I 0 (av ++ List.replicate (i_nL I - av.length) .null) [] h 0 0 Q) : AM y I av h Q := by
  intro l V hl
  have hcd : a_cd y I = Cond.codeWith y (i_cc I) (i_nL I) (i_ret I) (i_hh I) := if_neg hnh
  refine vx_ofWH (cc := i_cc I) (maxL := i_nL I) (ret := i_ret I) (hh := i_hh I) (ws' := a_GT) hy (by rw [hcd]) ?_
  intro p e s m args below meth c s₁ B hml hPre
  obtain ⟨rfl, ⟨ws, tys, hP⟩, hX, hcl, hB⟩ := hPre
  have hts := atoms_spec (ws := a_cd y I :: a_GT) B.pre
  have hno : c.exceptionTable.toList = tableOf (i_hh I) := vx_table (x := y) B (by have := hts _ List.mem_cons_self; rw [hcd] at this; exact this)
  have hlocks := B.notSynchronized
  have hsl : lg_sl (av.map (a_cv V)) = (av.map (a_cv V)).map Slot.val := by
    unfold lg_sl
    rw [List.flatMap_map, List.map_map]
    have : ∀ (l : List Value), (∀ v ∈ l, v.category = 1) → l.flatMap (fun v => if (a_cv V v).category = 2 then [Slot.val (a_cv V v), Slot.second] else [Slot.val (a_cv V v)]) = l.map (Slot.val ∘ a_cv V) := by
      intro l
      induction l with
      | nil => intro _; rfl
      | cons v t ih =>
        intro hv
        have h1 := hv v List.mem_cons_self
        rw [List.flatMap_cons, ih (fun w hw => hv w (List.mem_cons_of_mem _ hw)), a_cv_cat, h1]
        rfl
    exact this av hcat
  have hentry := lv_entry (av.map (a_cv V)) (n := i_nL I) (by rw [hsl]; simpa using hlen)
  rw [lg_entry_eq]
  have hargs : ∀ (i : Nat) (v : Value), av[i]? = some v → ((lg_sl (av.map (a_cv V)) ++ List.replicate (i_nL I - (lg_sl (av.map (a_cv V))).length) Slot.unset).toArray)[i]? = some (.val (a_cv V v)) := by
    intro i v hv
    have hi := (List.getElem?_eq_some_iff.mp hv).1
    rw [hsl, List.getElem?_toArray, List.getElem?_append_left (by simpa using hi), List.getElem?_map, List.getElem?_map, hv]
    rfl
  generalize (lg_sl (av.map (a_cv V)) ++ List.replicate (i_nL I - (lg_sl (av.map (a_cv V))).length) Slot.unset).toArray = lsC at hentry hargs ⊢
  have hpost : ∀ (H : Heap) (locs : List Loc) (h : a_H) (ws : va_W) (tys : List (ClassId × FieldType)) (v : Option Value), a_HP V h.2 H s ws tys → va_S (a_A V) s.heap H locs → Q (.inl v) h → ∀ t : State, t.heap = H → s.WarmedH t.vm → a_Qc V Q (av.map (a_cv V)).toArray s (.returned (v.map (a_cv V))) t :=
    fun H locs h ws tys v a1 a2 a3 t ht hW => ⟨⟨v, h, rfl, a3, ws, tys, by rw [ht]; exact a1.moved hW.alike⟩, a2.F ht⟩
  refine k V p l e _ s m _ below meth c s.heap [] _ ws tys lsC ⟨B.exec, B.bytes, hml, by rw [hown]; exact findClass_of_methodNamed B.named, fun w hw => hts w (List.mem_cons_of_mem _ hw), hlocks, hl, ⟨Nat.le_refl _, Nat.le_refl _, rfl, rfl⟩, hno,
    fun z => (name_of_methodNamed B.named B.method).1.trans (hini z), hX, hB, fun q hq => by rw [hxs] at hq; cases hq⟩ ⟨?_, ?_, ?_⟩ (fun z => hcl z) hP va_S.rf (Nat.zero_le _) (Nat.zero_le _) ⟨hentry.1, hentry.2.1, ?_⟩
  · intro H locs h ws tys pc ls v a1 a2 a3 a4 a5
    have hq := hpost H locs h ws tys v a1 a2 a3
    match v, a4, a5, hq with
    | none, a4, a5, hq => exact vx_ret (W.vret B.exec B.bytes (B.returns.trans a5) hq a2.2.2 a4 hlocks)
    | some (.int x), a4, a5, hq => obtain ⟨ty, b1, b2⟩ := a5; exact vx_ret (W.zret B.exec B.bytes (B.returns.trans b1) b2 hq a2.2.2 a4 hlocks)
    | some (.long x), a4, a5, hq => exact vx_ret (W.lret B.exec B.bytes (B.returns.trans a5) hq a2.2.2 a4 hlocks)
    | some (.float x), a4, a5, hq => exact vx_ret (W.fret B.exec B.bytes (B.returns.trans a5) hq a2.2.2 a4 hlocks)
  · exact fun z => absurd z hnh
  · exact fun z => absurd z hnh
  · intro i v hi hv
    by_cases hil : i < av.length
    · rw [List.getElem?_append_left hil] at hi
      exact hargs i v hi
    · rw [List.getElem?_append_right (by omega)] at hi
      exact absurd (List.eq_of_mem_replicate (List.mem_of_getElem? hi)) hv
/-- what a call site and its callee's words have to say -/
def a_plain (y : MethodName) (n : Nat) : Prop := y.cls ≠ "java/lang/invoke/MethodHandle" ∧ y.cls ≠ "java/lang/invoke/VarHandle" ∧ (parseMethodDescriptor y.desc).map (fun d => d.parameters.length) = some n
def a_CV (own : String) (ix : Nat) (y : MethodName) (I' : a_I) (n : Nat) : Prop :=
  i_hh I' = [] ∧ a_plain y n ∧ Cond.methodLink own ix y ∈ a_GT ∧ Cond.instanceMethod y ∈ a_GT ∧ Cond.selects y.cls y y ∈ a_GT ∧ Cond.initialized y.cls ∈ a_GT ∧ a_cd y I' ∈ a_GT
def a_CI (own : String) (ix : Nat) (y : MethodName) (I' : a_I) (n : Nat) : Prop :=
  i_hh I' = [] ∧ i_ret I' = none ∧ y.name = "<init>" ∧ a_plain y n ∧ (Cond.methodLink own ix y ∈ a_GT ∨ ∃ host, Cond.methodLinkNest own ix y host ∈ a_GN) ∧ Cond.instanceMethod y ∈ a_GT ∧ Cond.initialized y.cls ∈ a_GT ∧ a_cd y I' ∈ a_GT
def a_CS (own : String) (ix : Nat) (y : MethodName) (I' : a_I) (n : Nat) : Prop :=
  a_plain y n ∧ (Cond.methodLink own ix y ∈ a_GT ∨ (i_hh I' = [] ∧ ∃ host, Cond.methodLinkNest own ix y host ∈ a_GN)) ∧ Cond.static y ∈ a_GT ∧ Cond.initialized y.cls ∈ a_GT ∧ a_cd y I' ∈ a_GT
theorem a_wsG {y : MethodName} {I' : a_I} (h : a_cd y I' ∈ a_GT) : ∀ w ∈ a_cd y I' :: a_GT, w ∈ a_GT := fun w hw => (List.mem_cons.mp hw).elim (fun e => by rw [e]; exact h) (fun h => h)
section AC2
variable {I : a_I} {pc uc us : Nat} {ls st : List Value} {h : a_H} {Q : a_Q}
/-- what a caller owes behind a call -/
def a_Kn (I : a_I) (pc : Nat) (ls st : List Value) (h : a_H) (uc us : Nat) (Q : a_Q) (I' : a_I) (Q' : a_Q) : Prop :=
  (∀ v h', Q' (.inl v) h' → (h'.1 = true → h.1 = true ∧ h'.2.length = h.2.length + i_mc I' ∧ h'.2.length ≤ 5000) ∧ AW I (pc + 3) ls (v.toList ++ st) h' (uc + i_mc I') (us + i_ms I') Q) ∧
  (∀ E h', Q' (.inr E) h' → (i_hh I = [] ∧ Q (.inr E) h') ∨ (∃ tgt k nx, a_hd I pc E tgt k nx ∧ h'.1 = false ∧ (∀ j w, ls[j]? = some w → j + 1 = k → w.category = 1) ∧ AW I nx (ls.set k .null) [] h' (uc + i_mc I') (us + i_ms I') Q))
def a_room (I I' : a_I) (st : List Value) (uc us : Nat) : Prop := i_d I' + 1 ≤ i_d I ∧ i_nL I' ≤ 40 ∧ (st.map fun v => v.category).sum ≤ 8 ∧ uc + i_mc I' ≤ i_mc I ∧ us + i_ms I' ≤ i_ms I
theorem r_callV {ix c ci n : Nat} {y : MethodName} {I' : a_I} {As : List Value} {vs : List Value} {Q' : a_Q} (hd : decode (i_cc I) pc = .ok (.invokevirtual ix, 3)) (hc : a_CV (i_own I) ix y I' n) (hM : AM y I' (.ref c :: As) h Q') (hn : As.length = n) (hcell : h.2[c]? = some (.inr (ci, vs))) (hci : ∃ r, a_cls[ci]? = some r ∧ r.1 = y.cls)
    (hrm : a_room I I' st uc us) (k : a_Kn I pc ls st h uc us Q I' Q') : AW I pc ls (As.reverse ++ .ref c :: st) h uc us Q := by
  intro V p l e R s m args below meth c9 H locs Gl ws tys lsC hC hR hN hH hS hu hv2 hL
  obtain ⟨hd1, hnl, hst, hu1, hv1⟩ := hrm
  obtain ⟨hnh, hpl, w1, w2, w3, w4, w5⟩ := hc
  obtain ⟨r, hr, hry⟩ := hci
  have hroom := hC.2.2.2.2.2.2.2.1
  have hB := hC.2.2.2.2.2.2.2.2.2.2.2.1
  have hX := hC.2.2.2.2.2.2.2.2.2.2.1
  have hcd : a_cd y I' = Cond.code y (i_cc I') (i_nL I') (i_ret I') := if_pos hnh
  have hsg : (As.reverse ++ .ref c :: st).map (a_cv V) = (As.map (a_cv V)).reverse ++ .ref (a_ad V c) :: st.map (a_cv V) := by simp [a_cv]
  rw [hsg]
  refine a_after (a := (Value.ref (a_ad V c) :: As.map (a_cv V)).toArray) hC hR hN hH hS hL hu1 hv1 (fun hcl => ?_) k.1 k.2
  exact vx_runV (C := y.cls) (n := n) (b := a_ad V c) (As := As.map (a_cv V)) ⟨hC.1, hC.2.1, hC.2.2.1, hC.2.2.2.1, hC.2.2.2.2.1⟩ (hM l V hC.2.2.2.2.2.2.1)
    (cwV (C := y.cls) (bytes := i_cc I') (maxL := i_nL I') (ret := i_ret I') (ws' := a_GT) n hC.2.2.2.2.1 (a_good (fun w hw => by
      unfold wsV at hw
      rcases List.mem_append.mp hw with g | g
      · simp only [List.mem_cons, List.not_mem_nil, or_false] at g
        rcases g with rfl | rfl | rfl | rfl
        · exact w1
        · exact w2
        · exact w3
        · exact w4
      · exact a_wsG w5 w g)) (by rw [hcd]) rfl rfl ⟨rfl, hpl⟩ ⟨by show i_d I' + 1 ≤ R.frames; omega, by show 8 + (i_nL I' + 11) + 60 * i_d I' ≤ R.locals; omega⟩)
    ⟨a_Pre.blind, by rw [← hry]; exact va_recv hH.2.2.2 hH.2.1 hr (hH.1.objAt hcell), fun U hU hW => ⟨rfl, a_Pre.of hX hB hH hS hcl hU hW⟩⟩ rfl (by simpa using hn) (by rw [hL.1]) rfl (by rw [a_cat]; show 2 * 0 + _ ≤ 8; omega) hd ⟨by rw [hroom.2.2.1]; exact hu1, by rw [hroom.2.2.2]; exact hv1⟩
theorem r_callS {ix n : Nat} {y : MethodName} {I' : a_I} {As : List Value} {Q' : a_Q} (hd : decode (i_cc I) pc = .ok (.invokestatic ix, 3)) (hc : a_CS (i_own I) ix y I' n) (hM : AM y I' As h Q') (hn : As.length = n)
    (hrm : a_room I I' st uc us) (k : a_Kn I pc ls st h uc us Q I' Q') : AW I pc ls (As.reverse ++ st) h uc us Q := by
  intro V p l e R s m args below meth c9 H locs Gl ws tys lsC hC hR hN hH hS hu hv2 hL
  obtain ⟨hd1, hnl, hst, hu1, hv1⟩ := hrm
  obtain ⟨hpl, w1, w2, w4, w5⟩ := hc
  have hroom := hC.2.2.2.2.2.2.2.1
  have hB := hC.2.2.2.2.2.2.2.2.2.2.2.1
  have hX := hC.2.2.2.2.2.2.2.2.2.2.1
  have hsg : (As.reverse ++ st).map (a_cv V) = (As.map (a_cv V)).reverse ++ st.map (a_cv V) := by simp
  rw [hsg]
  refine a_after (a := (As.map (a_cv V)).toArray) hC hR hN hH hS hL hu1 hv1 (fun hcl => ?_) k.1 k.2
  have hgd : ∀ w ∈ va_wsS (i_own I) ix y (a_cd y I' :: a_GT), Cond.methodLink (i_own I) ix y ∈ a_GT → w ∈ a_GT := by
    intro w hw w1
    unfold va_wsS at hw
    rcases List.mem_append.mp hw with g | g
    · simp only [List.mem_cons, List.not_mem_nil, or_false] at g
      rcases g with rfl | rfl | rfl
      · exact w1
      · exact w2
      · exact w4
    · exact a_wsG w5 w g
  have hRm : (a_rm (i_d I') (i_mc I') (i_ms I')).frames + 1 ≤ R.frames ∧ 8 + (i_nL I' + 11) + (a_rm (i_d I') (i_mc I') (i_ms I')).locals ≤ R.locals := ⟨by show i_d I' + 1 ≤ R.frames; omega, by show 8 + (i_nL I' + 11) + 60 * i_d I' ≤ R.locals; omega⟩
  have hfix : CallFix p m c9 (i_cc I) (i_nL I) s args a_GT (i_own I) := ⟨hC.1, hC.2.1, hC.2.2.1, hC.2.2.2.1, hC.2.2.2.2.1⟩
  have hpre : PreS s H (va_Pc (As.map (a_cv V)) (a_Pre V h)) (As.map (a_cv V)) := ⟨a_Pre.blind, fun U hU hW => ⟨rfl, a_Pre.of hX hB hH hS hcl hU hW⟩⟩
  by_cases hnh : i_hh I' = []
  · have hcd : a_cd y I' = Cond.code y (i_cc I') (i_nL I') (i_ret I') := if_pos hnh
    rcases w1 with w1 | ⟨-, host, w1⟩
    · exact vx_runS (n := n) (As := As.map (a_cv V)) hfix (hM l V hC.2.2.2.2.2.2.1) (va_cwS (bytes := i_cc I') (maxL := i_nL I') (ret := i_ret I') (ws' := a_GT) n hC.2.2.2.2.1 (a_good (fun w hw => hgd w hw w1)) (by rw [hcd]) rfl rfl hpl hRm)
        hpre rfl (by simpa using hn) (by rw [hL.1]) rfl (by rw [a_cat]; show 2 * 0 + _ ≤ 8; omega) hd ⟨by rw [hroom.2.2.1]; exact hu1, by rw [hroom.2.2.2]; exact hv1⟩
    · exact vx_runSN (n := n) (host := host) (As := As.map (a_cv V)) hfix (hM l V hC.2.2.2.2.2.2.1) ⟨va_cnB (bytes := i_cc I') (maxL := i_nL I') (ret := i_ret I') (ws' := a_GT) n hC.2.2.2.2.1 (a_good (a_wsG w5)) (by rw [hcd]) rfl rfl (hX.2.2.2.2.2.2.2.2.2 _ w1) (hC.2.2.2.2.1 _ w4) hpl hRm, hC.2.2.2.2.1 _ w2, trivial⟩
        hpre rfl (by simpa using hn) (by rw [hL.1]) rfl (by rw [a_cat]; show 2 * 0 + _ ≤ 8; omega) hd ⟨by rw [hroom.2.2.1]; exact hu1, by rw [hroom.2.2.2]; exact hv1⟩
  · have hcd : a_cd y I' = Cond.codeWith y (i_cc I') (i_nL I') (i_ret I') (i_hh I') := if_neg hnh
    rcases w1 with w1 | ⟨z, -⟩
    · exact vx_runSX (n := n) (As := As.map (a_cv V)) hfix (hM l V hC.2.2.2.2.2.2.1) (vx_cwSW (bytes := i_cc I') (maxL := i_nL I') (ret := i_ret I') (hh := i_hh I') (ws' := a_GT) n hC.2.2.2.2.1 (a_good (fun w hw => hgd w hw w1)) (by rw [hcd]) rfl rfl hpl hRm)
        hpre rfl (by simpa using hn) (by rw [hL.1]) rfl (by rw [a_cat]; show 2 * 0 + _ ≤ 8; omega) hd ⟨by rw [hroom.2.2.1]; exact hu1, by rw [hroom.2.2.2]; exact hv1⟩
    · exact absurd z hnh
theorem r_callI {ix c n : Nat} {y : MethodName} {I' : a_I} {As : List Value} {Q' : a_Q} (hd : decode (i_cc I) pc = .ok (.invokespecial ix, 3)) (hc : a_CI (i_own I) ix y I' n) (hM : AM y I' (.ref c :: As) h Q') (hn : As.length = n)
    (hrm : a_room I I' st uc us) (k : a_Kn I pc ls st h uc us Q I' Q') : AW I pc ls (As.reverse ++ .ref c :: st) h uc us Q := by
  intro V p l e R s m args below meth c9 H locs Gl ws tys lsC hC hR hN hH hS hu hv2 hL
  obtain ⟨hd1, hnl, hst, hu1, hv1⟩ := hrm
  obtain ⟨hnh, hret, hin, hpl, w1, w2, w4, w5⟩ := hc
  have hroom := hC.2.2.2.2.2.2.2.1
  have hB := hC.2.2.2.2.2.2.2.2.2.2.2.1
  have hX := hC.2.2.2.2.2.2.2.2.2.2.1
  have hcd : a_cd y I' = Cond.code y (i_cc I') (i_nL I') none := by rw [← hret]; exact if_pos hnh
  have hsg : (As.reverse ++ .ref c :: st).map (a_cv V) = (As.map (a_cv V)).reverse ++ .ref (a_ad V c) :: st.map (a_cv V) := by simp [a_cv]
  rw [hsg]
  refine a_after (a := (Value.ref (a_ad V c) :: As.map (a_cv V)).toArray) hC hR hN hH hS hL hu1 hv1 (fun hcl => ?_) k.1 k.2
  have hRm : (a_rm (i_d I') (i_mc I') (i_ms I')).frames + 1 ≤ R.frames ∧ 8 + (i_nL I' + 11) + (a_rm (i_d I') (i_mc I') (i_ms I')).locals ≤ R.locals := ⟨by show i_d I' + 1 ≤ R.frames; omega, by show 8 + (i_nL I' + 11) + 60 * i_d I' ≤ R.locals; omega⟩
  have hfix : CallFix p m c9 (i_cc I) (i_nL I) s args a_GT (i_own I) := ⟨hC.1, hC.2.1, hC.2.2.1, hC.2.2.2.1, hC.2.2.2.2.1⟩
  have hpre : PreS s H (va_Pc ((Value.ref c :: As).map (a_cv V)) (a_Pre V h)) (.ref (a_ad V c) :: As.map (a_cv V)) := ⟨a_Pre.blind, fun U hU hW => ⟨rfl, a_Pre.of hX hB hH hS hcl hU hW⟩⟩
  rcases w1 with w1 | ⟨host, w1⟩
  · exact vx_runI (n := n) (b := a_ad V c) (As := As.map (a_cv V)) hfix (hM l V hC.2.2.2.2.2.2.1) (cwI (bytes := i_cc I') (maxL := i_nL I') (ws' := a_GT) n hC.2.2.2.2.1 (a_good (a_wsG w5)) (by rw [hcd]) rfl rfl (hC.2.2.2.2.1 _ w4) (hC.2.2.2.2.1 _ w1) (hC.2.2.2.2.1 _ w2) hin hpl hRm)
      hpre rfl (by simpa using hn) (by rw [hL.1]) rfl (by rw [a_cat]; show 2 * 0 + _ ≤ 8; omega) hd ⟨by rw [hroom.2.2.1]; exact hu1, by rw [hroom.2.2.2]; exact hv1⟩
  · exact vx_runIN (n := n) (host := host) (b := a_ad V c) (As := As.map (a_cv V)) hfix (hM l V hC.2.2.2.2.2.2.1) ⟨va_cnB (bytes := i_cc I') (maxL := i_nL I') (ret := none) (ws' := a_GT) n hC.2.2.2.2.1 (a_good (a_wsG w5)) (by rw [hcd]) rfl rfl (hX.2.2.2.2.2.2.2.2.2 _ w1) (hC.2.2.2.2.1 _ w4) hpl hRm, hin, hC.2.2.2.2.1 _ w2⟩
      hpre rfl (by simpa using hn) (by rw [hL.1]) rfl (by rw [a_cat]; show 2 * 0 + _ ≤ 8; omega) hd ⟨by rw [hroom.2.2.1]; exact hu1, by rw [hroom.2.2.2]; exact hv1⟩
theorem r_objI {ix c : Nat} (hd : decode (i_cc I) pc = .ok (.invokespecial ix, 3)) (w1 : Cond.methodLink (i_own I) ix Lib.objectInit ∈ a_GT) (w2 : Cond.instanceMethod Lib.objectInit ∈ a_GT) (w3 : Cond.code Lib.objectInit ⟨#[0xb1]⟩ 1 none ∈ a_GT) (hdp : 1 ≤ i_d I) (hst : (st.map fun v => v.category).sum ≤ 8)
    (k : AW I (pc + 3) ls st h uc us Q) : AW I pc ls (.ref c :: st) h uc us Q := by
  intro V p l e R s m args below meth c9 H locs Gl ws tys lsC hC hR hN hH hS hu hv2 hL
  have hroom := hC.2.2.2.2.2.2.2.1
  exact W.objInit hC.1 hC.2.1 hC.2.2.2.1 (hC.2.2.2.2.1 _ w1) (hC.2.2.2.2.1 _ w2) (hC.2.2.2.2.1 _ w3) (g := F0 m pc lsC ((Value.ref c :: st).map (a_cv V))) rfl (by rw [hC.2.2.1]; exact hL.1) (rest := st.map (a_cv V)) rfl hd (by omega) (by rw [a_cat]; show 2 * 0 + _ + 12 ≤ R.locals; omega) (k V p l e R s m args below meth c9 H locs Gl ws tys lsC hC hR hN hH hS hu hv2 hL)
end AC2
end
section
/-! THE STATIC HEAP: once everything is made, the cells are known by numbers: the object 0, the places at 1, 32, 65 + 31 i, their history, text, note, the check's object at 317 and its rows, out at 325, outD at 326. What moves: M (a cell's ints), L (a cell's longs), dd (the one double). -/
def m_pl (r : Nat → Int32) (w : Nat → Int64) (c : Nat) : Nat → a_E
  | 0 => .inr (5, [.ref (c + 1), .ref (c + 6), .ref (c + 12), .ref (c + 15), .ref (c + 23), .ref (c + 30), .int (r 6), .int (r 7), .int (r 8)])
  | 1 => .inr (8, [.int (r 0), .ref (c + 1), .ref (c + 2), .ref (c + 3), .ref (c + 4)])
  | 6 => .inr (2, [.int (r 0), .ref (c + 1), .ref (c + 2), .ref (c + 3), .ref (c + 4), .ref (c + 5)])
  | 12 => .inr (3, [.int (r 0), .ref (c + 1), .ref (c + 2)])
  | 15 => .inr (1, [.int (r 0), .ref (c + 1), .ref (c + 2), .ref (c + 3), .ref (c + 4), .ref (c + 5), .ref (c + 6), .ref (c + 7)])
  | 23 => .inr (6, [.ref (c + 1), .ref (c + 2), .ref (c + 3), .ref (c + 4), .ref (c + 5), .ref (c + 6)])
  | 28 => .inl (2, 12, .inr (.inl w))
  | 29 => .inl (2, 12, .inr (.inl w))
  | 30 => .inl (0, 3, .inl r)
  | k => .inl (0, if k ≤ 5 then 12 else if k ≤ 11 then 8 else if k ≤ 14 then 6 else if k ≤ 22 then 30 else if k ≤ 26 then 12 else 6, .inl r)
def m_pf : Nat → Option Nat := fun j => if j < 8 then some (65 + 31 * j) else none
def m_cell (r : Nat → Int32) (w : Nat → Int64) (dd : UInt64) (c : Nat) : a_E :=
  if c = 0 then .inr (9, [.ref 1, .ref 32, .ref 63, .ref 313, .ref 315])
  else if c < 63 then m_pl r w c ((c - 1) % 31)
  else if c = 63 then .inr (0, [.int (r 0), .int (r 1), .ref 64])
  else if c = 64 then .inl (4, 8, .inr (.inr (.inr (.inr m_pf))))
  else if c < 313 then m_pl r w c ((c - 65) % 31)
  else if c = 313 then .inr (7, [.int (r 0), .int (r 1), .int (r 2), .ref 314, .int (r 4), .int (r 5), .int (r 6)])
  else if c = 314 then .inl (1, 600, .inl r)
  else if c = 315 then .inr (4, [.int (r 0), .ref 316])
  else if c = 316 then .inl (1, 128, .inl r)
  else if c = 317 then .inr (10, [.ref 318, .ref 319, .ref 320, .ref 321, .int (r 4), .int (r 5), .ref 322, .int (r 7), .int (r 8), .int (r 9), .int (r 10), .int (r 11), .int (r 12), .int (r 13), .int (r 14), .int (r 15), .ref 323, .int (r 17), .ref 324, .int (r 19)])
  else if c = 325 then .inl (2, 1, .inr (.inl w))
  else if c = 326 then .inl (3, 1, .inr (.inr (.inr (.inl (fun _ => dd)))))
  else .inl (0, if c ≤ 320 then 308 else if c = 321 then 2464 else if c = 322 then 600 else if c = 323 then 12 else 120, .inl r)
def hp (M : Nat → Nat → Int32) (L : Nat → Nat → Int64) (dd : UInt64) : List a_E := (List.range 327).map (fun c => m_cell (M c) (L c) dd c)
abbrev hS (M : Nat → Nat → Int32) (L : Nat → Nat → Int64) (dd : UInt64) : a_H := (false, hp M L dd)
def mU (M : Nat → Nat → Int32) (c : Nat) (r : Nat → Int32) : Nat → Nat → Int32 := fun a => if a = c then r else M a
def mL (L : Nat → Nat → Int64) (c : Nat) (r : Nat → Int64) : Nat → Nat → Int64 := fun a => if a = c then r else L a
theorem mU_s {M : Nat → Nat → Int32} {c : Nat} {r : Nat → Int32} : mU M c r c = r := if_pos rfl
theorem mU_n {M : Nat → Nat → Int32} {c a : Nat} {r : Nat → Int32} (h : a ≠ c) : mU M c r a = M a := if_neg h
theorem mL_s {M : Nat → Nat → Int64} {c : Nat} {r : Nat → Int64} : mL M c r c = r := if_pos rfl
theorem mL_n {M : Nat → Nat → Int64} {c a : Nat} {r : Nat → Int64} (h : a ≠ c) : mL M c r a = M a := if_neg h
theorem hp_at {M : Nat → Nat → Int32} {L : Nat → Nat → Int64} {dd : UInt64} {c : Nat} (hc : c < 327) : (hp M L dd)[c]? = some (m_cell (M c) (L c) dd c) := by
  unfold hp
  rw [List.getElem?_map, List.getElem?_range hc]
  rfl
theorem hp_len {M : Nat → Nat → Int32} {L : Nat → Nat → Int64} {dd : UInt64} : (hp M L dd).length = 327 := by simp [hp]
theorem hp_setM {M : Nat → Nat → Int32} {L : Nat → Nat → Int64} {dd : UInt64} {c : Nat} (r : Nat → Int32) (e : a_E) (he : m_cell r (L c) dd c = e) : (hp M L dd).set c e = hp (mU M c r) L dd := by
  subst he
  refine List.ext_getElem? fun i => ?_
  by_cases hi : i < 327
  · by_cases hic : i = c
    · subst hic
      rw [List.getElem?_set_self (by rw [hp_len]; exact hi), hp_at hi, mU_s]
    · rw [List.getElem?_set_ne (Ne.symm hic), hp_at hi, hp_at hi, mU_n hic]
  · rw [List.getElem?_eq_none (by rw [List.length_set, hp_len]; omega), List.getElem?_eq_none (by rw [hp_len]; omega)]
theorem hp_setL {M : Nat → Nat → Int32} {L : Nat → Nat → Int64} {dd : UInt64} {c : Nat} (r : Nat → Int64) (e : a_E) (he : m_cell (M c) r dd c = e) : (hp M L dd).set c e = hp M (mL L c r) dd := by
  subst he
  refine List.ext_getElem? fun i => ?_
  by_cases hi : i < 327
  · by_cases hic : i = c
    · subst hic
      rw [List.getElem?_set_self (by rw [hp_len]; exact hi), hp_at hi, mL_s]
    · rw [List.getElem?_set_ne (Ne.symm hic), hp_at hi, hp_at hi, mL_n hic]
  · rw [List.getElem?_eq_none (by rw [List.length_set, hp_len]; omega), List.getElem?_eq_none (by rw [hp_len]; omega)]
/-- what kind of cell stands at a number -/
def OB (c ci : Nat) (vs : (Nat → Int32) → List Value) : Prop := c < 327 ∧ ∀ r w dd, m_cell r w dd c = .inr (ci, vs r)
def AI (c n : Nat) : Prop := c < 327 ∧ ∀ r w dd, m_cell r w dd c = .inl (0, n, .inl r)
def AB (c n : Nat) : Prop := c < 327 ∧ ∀ r w dd, m_cell r w dd c = .inl (1, n, .inl r)
def AL (c n : Nat) : Prop := c < 327 ∧ ∀ r w dd, m_cell r w dd c = .inl (2, n, .inr (.inl w))
def PL (p : Nat) : Prop := p ∈ [1, 32, 65, 96, 127, 158, 189, 220, 251, 282]
theorem pl_ind {P : Nat → Prop} {p : Nat} (hp : PL p) (h : ∀ q ∈ [1, 32, 65, 96, 127, 158, 189, 220, 251, 282], P q) : P p := h p hp
theorem pl1 : PL 1 := by unfold PL; decide
theorem pl32 : PL 32 := by unfold PL; decide
theorem ob_place {p : Nat} (h : PL p) : OB p 5 (fun r => [.ref (p + 1), .ref (p + 6), .ref (p + 12), .ref (p + 15), .ref (p + 23), .ref (p + 30), .int (r 6), .int (r 7), .int (r 8)]) := by
  refine pl_ind (P := fun p => OB p 5 (fun r => [.ref (p + 1), .ref (p + 6), .ref (p + 12), .ref (p + 15), .ref (p + 23), .ref (p + 30), .int (r 6), .int (r 7), .int (r 8)])) h ?_
  intro q hq
  simp only [List.mem_cons, List.not_mem_nil, or_false] at hq
  rcases hq with rfl | rfl | rfl | rfl | rfl | rfl | rfl | rfl | rfl | rfl <;> exact ⟨by decide, fun r w dd => rfl⟩
theorem ob_tree {p : Nat} (h : PL p) : OB (p + 1) 8 (fun r => [.int (r 0), .ref (p + 2), .ref (p + 3), .ref (p + 4), .ref (p + 5)]) := by
  refine pl_ind (P := fun p => OB (p + 1) 8 (fun r => [.int (r 0), .ref (p + 2), .ref (p + 3), .ref (p + 4), .ref (p + 5)])) h ?_
  intro q hq
  simp only [List.mem_cons, List.not_mem_nil, or_false] at hq
  rcases hq with rfl | rfl | rfl | rfl | rfl | rfl | rfl | rfl | rfl | rfl <;> exact ⟨by decide, fun r w dd => rfl⟩
theorem ob_loans {p : Nat} (h : PL p) : OB (p + 6) 2 (fun r => [.int (r 0), .ref (p + 7), .ref (p + 8), .ref (p + 9), .ref (p + 10), .ref (p + 11)]) := by
  refine pl_ind (P := fun p => OB (p + 6) 2 (fun r => [.int (r 0), .ref (p + 7), .ref (p + 8), .ref (p + 9), .ref (p + 10), .ref (p + 11)])) h ?_
  intro q hq
  simp only [List.mem_cons, List.not_mem_nil, or_false] at hq
  rcases hq with rfl | rfl | rfl | rfl | rfl | rfl | rfl | rfl | rfl | rfl <;> exact ⟨by decide, fun r w dd => rfl⟩
theorem ob_machines {p : Nat} (h : PL p) : OB (p + 12) 3 (fun r => [.int (r 0), .ref (p + 13), .ref (p + 14)]) := by
  refine pl_ind (P := fun p => OB (p + 12) 3 (fun r => [.int (r 0), .ref (p + 13), .ref (p + 14)])) h ?_
  intro q hq
  simp only [List.mem_cons, List.not_mem_nil, or_false] at hq
  rcases hq with rfl | rfl | rfl | rfl | rfl | rfl | rfl | rfl | rfl | rfl <;> exact ⟨by decide, fun r w dd => rfl⟩
theorem ob_jobs {p : Nat} (h : PL p) : OB (p + 15) 1 (fun r => [.int (r 0), .ref (p + 16), .ref (p + 17), .ref (p + 18), .ref (p + 19), .ref (p + 20), .ref (p + 21), .ref (p + 22)]) := by
  refine pl_ind (P := fun p => OB (p + 15) 1 (fun r => [.int (r 0), .ref (p + 16), .ref (p + 17), .ref (p + 18), .ref (p + 19), .ref (p + 20), .ref (p + 21), .ref (p + 22)])) h ?_
  intro q hq
  simp only [List.mem_cons, List.not_mem_nil, or_false] at hq
  rcases hq with rfl | rfl | rfl | rfl | rfl | rfl | rfl | rfl | rfl | rfl <;> exact ⟨by decide, fun r w dd => rfl⟩
theorem ob_scale {p : Nat} (h : PL p) : OB (p + 23) 6 (fun r => [.ref (p + 24), .ref (p + 25), .ref (p + 26), .ref (p + 27), .ref (p + 28), .ref (p + 29)]) := by
  refine pl_ind (P := fun p => OB (p + 23) 6 (fun r => [.ref (p + 24), .ref (p + 25), .ref (p + 26), .ref (p + 27), .ref (p + 28), .ref (p + 29)])) h ?_
  intro q hq
  simp only [List.mem_cons, List.not_mem_nil, or_false] at hq
  rcases hq with rfl | rfl | rfl | rfl | rfl | rfl | rfl | rfl | rfl | rfl <;> exact ⟨by decide, fun r w dd => rfl⟩
theorem ai_parent {p : Nat} (h : PL p) : AI (p + 2) 12 := by
  refine pl_ind (P := fun p => AI (p + 2) 12) h ?_
  intro q hq
  simp only [List.mem_cons, List.not_mem_nil, or_false] at hq
  rcases hq with rfl | rfl | rfl | rfl | rfl | rfl | rfl | rfl | rfl | rfl <;> exact ⟨by decide, fun r w dd => rfl⟩
theorem ai_shares {p : Nat} (h : PL p) : AI (p + 3) 12 := by
  refine pl_ind (P := fun p => AI (p + 3) 12) h ?_
  intro q hq
  simp only [List.mem_cons, List.not_mem_nil, or_false] at hq
  rcases hq with rfl | rfl | rfl | rfl | rfl | rfl | rfl | rfl | rfl | rfl <;> exact ⟨by decide, fun r w dd => rfl⟩
theorem ai_use {p : Nat} (h : PL p) : AI (p + 4) 12 := by
  refine pl_ind (P := fun p => AI (p + 4) 12) h ?_
  intro q hq
  simp only [List.mem_cons, List.not_mem_nil, or_false] at hq
  rcases hq with rfl | rfl | rfl | rfl | rfl | rfl | rfl | rfl | rfl | rfl <;> exact ⟨by decide, fun r w dd => rfl⟩
theorem ai_base {p : Nat} (h : PL p) : AI (p + 5) 12 := by
  refine pl_ind (P := fun p => AI (p + 5) 12) h ?_
  intro q hq
  simp only [List.mem_cons, List.not_mem_nil, or_false] at hq
  rcases hq with rfl | rfl | rfl | rfl | rfl | rfl | rfl | rfl | rfl | rfl <;> exact ⟨by decide, fun r w dd => rfl⟩
theorem ai_from {p : Nat} (h : PL p) : AI (p + 7) 8 := by
  refine pl_ind (P := fun p => AI (p + 7) 8) h ?_
  intro q hq
  simp only [List.mem_cons, List.not_mem_nil, or_false] at hq
  rcases hq with rfl | rfl | rfl | rfl | rfl | rfl | rfl | rfl | rfl | rfl <;> exact ⟨by decide, fun r w dd => rfl⟩
theorem ai_to {p : Nat} (h : PL p) : AI (p + 8) 8 := by
  refine pl_ind (P := fun p => AI (p + 8) 8) h ?_
  intro q hq
  simp only [List.mem_cons, List.not_mem_nil, or_false] at hq
  rcases hq with rfl | rfl | rfl | rfl | rfl | rfl | rfl | rfl | rfl | rfl <;> exact ⟨by decide, fun r w dd => rfl⟩
theorem ai_ltickets {p : Nat} (h : PL p) : AI (p + 9) 8 := by
  refine pl_ind (P := fun p => AI (p + 9) 8) h ?_
  intro q hq
  simp only [List.mem_cons, List.not_mem_nil, or_false] at hq
  rcases hq with rfl | rfl | rfl | rfl | rfl | rfl | rfl | rfl | rfl | rfl <;> exact ⟨by decide, fun r w dd => rfl⟩
theorem ai_begin {p : Nat} (h : PL p) : AI (p + 10) 8 := by
  refine pl_ind (P := fun p => AI (p + 10) 8) h ?_
  intro q hq
  simp only [List.mem_cons, List.not_mem_nil, or_false] at hq
  rcases hq with rfl | rfl | rfl | rfl | rfl | rfl | rfl | rfl | rfl | rfl <;> exact ⟨by decide, fun r w dd => rfl⟩
theorem ai_ticks {p : Nat} (h : PL p) : AI (p + 11) 8 := by
  refine pl_ind (P := fun p => AI (p + 11) 8) h ?_
  intro q hq
  simp only [List.mem_cons, List.not_mem_nil, or_false] at hq
  rcases hq with rfl | rfl | rfl | rfl | rfl | rfl | rfl | rfl | rfl | rfl <;> exact ⟨by decide, fun r w dd => rfl⟩
theorem ai_slots {p : Nat} (h : PL p) : AI (p + 13) 6 := by
  refine pl_ind (P := fun p => AI (p + 13) 6) h ?_
  intro q hq
  simp only [List.mem_cons, List.not_mem_nil, or_false] at hq
  rcases hq with rfl | rfl | rfl | rfl | rfl | rfl | rfl | rfl | rfl | rfl <;> exact ⟨by decide, fun r w dd => rfl⟩
theorem ai_up {p : Nat} (h : PL p) : AI (p + 14) 6 := by
  refine pl_ind (P := fun p => AI (p + 14) 6) h ?_
  intro q hq
  simp only [List.mem_cons, List.not_mem_nil, or_false] at hq
  rcases hq with rfl | rfl | rfl | rfl | rfl | rfl | rfl | rfl | rfl | rfl <;> exact ⟨by decide, fun r w dd => rfl⟩
theorem ai_leaf {p : Nat} (h : PL p) : AI (p + 16) 30 := by
  refine pl_ind (P := fun p => AI (p + 16) 30) h ?_
  intro q hq
  simp only [List.mem_cons, List.not_mem_nil, or_false] at hq
  rcases hq with rfl | rfl | rfl | rfl | rfl | rfl | rfl | rfl | rfl | rfl <;> exact ⟨by decide, fun r w dd => rfl⟩
theorem ai_length {p : Nat} (h : PL p) : AI (p + 17) 30 := by
  refine pl_ind (P := fun p => AI (p + 17) 30) h ?_
  intro q hq
  simp only [List.mem_cons, List.not_mem_nil, or_false] at hq
  rcases hq with rfl | rfl | rfl | rfl | rfl | rfl | rfl | rfl | rfl | rfl <;> exact ⟨by decide, fun r w dd => rfl⟩
theorem ai_work {p : Nat} (h : PL p) : AI (p + 18) 30 := by
  refine pl_ind (P := fun p => AI (p + 18) 30) h ?_
  intro q hq
  simp only [List.mem_cons, List.not_mem_nil, or_false] at hq
  rcases hq with rfl | rfl | rfl | rfl | rfl | rfl | rfl | rfl | rfl | rfl <;> exact ⟨by decide, fun r w dd => rfl⟩
theorem ai_state {p : Nat} (h : PL p) : AI (p + 19) 30 := by
  refine pl_ind (P := fun p => AI (p + 19) 30) h ?_
  intro q hq
  simp only [List.mem_cons, List.not_mem_nil, or_false] at hq
  rcases hq with rfl | rfl | rfl | rfl | rfl | rfl | rfl | rfl | rfl | rfl <;> exact ⟨by decide, fun r w dd => rfl⟩
theorem ai_machine {p : Nat} (h : PL p) : AI (p + 20) 30 := by
  refine pl_ind (P := fun p => AI (p + 20) 30) h ?_
  intro q hq
  simp only [List.mem_cons, List.not_mem_nil, or_false] at hq
  rcases hq with rfl | rfl | rfl | rfl | rfl | rfl | rfl | rfl | rfl | rfl <;> exact ⟨by decide, fun r w dd => rfl⟩
theorem ai_ended {p : Nat} (h : PL p) : AI (p + 21) 30 := by
  refine pl_ind (P := fun p => AI (p + 21) 30) h ?_
  intro q hq
  simp only [List.mem_cons, List.not_mem_nil, or_false] at hq
  rcases hq with rfl | rfl | rfl | rfl | rfl | rfl | rfl | rfl | rfl | rfl <;> exact ⟨by decide, fun r w dd => rfl⟩
theorem ai_waited {p : Nat} (h : PL p) : AI (p + 22) 30 := by
  refine pl_ind (P := fun p => AI (p + 22) 30) h ?_
  intro q hq
  simp only [List.mem_cons, List.not_mem_nil, or_false] at hq
  rcases hq with rfl | rfl | rfl | rfl | rfl | rfl | rfl | rfl | rfl | rfl <;> exact ⟨by decide, fun r w dd => rfl⟩
theorem ai_load {p : Nat} (h : PL p) : AI (p + 24) 12 := by
  refine pl_ind (P := fun p => AI (p + 24) 12) h ?_
  intro q hq
  simp only [List.mem_cons, List.not_mem_nil, or_false] at hq
  rcases hq with rfl | rfl | rfl | rfl | rfl | rfl | rfl | rfl | rfl | rfl <;> exact ⟨by decide, fun r w dd => rfl⟩
theorem ai_waiting {p : Nat} (h : PL p) : AI (p + 25) 12 := by
  refine pl_ind (P := fun p => AI (p + 25) 12) h ?_
  intro q hq
  simp only [List.mem_cons, List.not_mem_nil, or_false] at hq
  rcases hq with rfl | rfl | rfl | rfl | rfl | rfl | rfl | rfl | rfl | rfl <;> exact ⟨by decide, fun r w dd => rfl⟩
theorem ai_tickets {p : Nat} (h : PL p) : AI (p + 26) 12 := by
  refine pl_ind (P := fun p => AI (p + 26) 12) h ?_
  intro q hq
  simp only [List.mem_cons, List.not_mem_nil, or_false] at hq
  rcases hq with rfl | rfl | rfl | rfl | rfl | rfl | rfl | rfl | rfl | rfl <;> exact ⟨by decide, fun r w dd => rfl⟩
theorem ai_busy {p : Nat} (h : PL p) : AI (p + 27) 6 := by
  refine pl_ind (P := fun p => AI (p + 27) 6) h ?_
  intro q hq
  simp only [List.mem_cons, List.not_mem_nil, or_false] at hq
  rcases hq with rfl | rfl | rfl | rfl | rfl | rfl | rfl | rfl | rfl | rfl <;> exact ⟨by decide, fun r w dd => rfl⟩
theorem ai_settings {p : Nat} (h : PL p) : AI (p + 30) 3 := by
  refine pl_ind (P := fun p => AI (p + 30) 3) h ?_
  intro q hq
  simp only [List.mem_cons, List.not_mem_nil, or_false] at hq
  rcases hq with rfl | rfl | rfl | rfl | rfl | rfl | rfl | rfl | rfl | rfl <;> exact ⟨by decide, fun r w dd => rfl⟩
theorem al_next {p : Nat} (h : PL p) : AL (p + 28) 12 := by
  refine pl_ind (P := fun p => AL (p + 28) 12) h ?_
  intro q hq
  simp only [List.mem_cons, List.not_mem_nil, or_false] at hq
  rcases hq with rfl | rfl | rfl | rfl | rfl | rfl | rfl | rfl | rfl | rfl <;> exact ⟨by decide, fun r w dd => rfl⟩
theorem al_now {p : Nat} (h : PL p) : AL (p + 29) 12 := by
  refine pl_ind (P := fun p => AL (p + 29) 12) h ?_
  intro q hq
  simp only [List.mem_cons, List.not_mem_nil, or_false] at hq
  rcases hq with rfl | rfl | rfl | rfl | rfl | rfl | rfl | rfl | rfl | rfl <;> exact ⟨by decide, fun r w dd => rfl⟩
theorem ob_x : OB 0 9 (fun r => [.ref 1, .ref 32, .ref 63, .ref 313, .ref 315]) := ⟨by decide, fun r w dd => rfl⟩
theorem ob_history : OB 63 0 (fun r => [.int (r 0), .int (r 1), .ref 64]) := ⟨by decide, fun r w dd => rfl⟩
theorem ob_text : OB 313 7 (fun r => [.int (r 0), .int (r 1), .int (r 2), .ref 314, .int (r 4), .int (r 5), .int (r 6)]) := ⟨by decide, fun r w dd => rfl⟩
theorem ob_note : OB 315 4 (fun r => [.int (r 0), .ref 316]) := ⟨by decide, fun r w dd => rfl⟩
theorem ob_model : OB 317 10 (fun r => [.ref 318, .ref 319, .ref 320, .ref 321, .int (r 4), .int (r 5), .ref 322, .int (r 7), .int (r 8), .int (r 9), .int (r 10), .int (r 11), .int (r 12), .int (r 13), .int (r 14), .int (r 15), .ref 323, .int (r 17), .ref 324, .int (r 19)]) := ⟨by decide, fun r w dd => rfl⟩
theorem ai_a : AI 318 308 := ⟨by decide, fun r w dd => rfl⟩
theorem ai_fresh : AI 319 308 := ⟨by decide, fun r w dd => rfl⟩
theorem ai_aside : AI 320 308 := ⟨by decide, fun r w dd => rfl⟩
theorem ai_kept : AI 321 2464 := ⟨by decide, fun r w dd => rfl⟩
theorem ai_buffer : AI 322 600 := ⟨by decide, fun r w dd => rfl⟩
theorem ai_mtickets : AI 323 12 := ⟨by decide, fun r w dd => rfl⟩
theorem ai_written : AI 324 120 := ⟨by decide, fun r w dd => rfl⟩
theorem ab_tbytes : AB 314 600 := ⟨by decide, fun r w dd => rfl⟩
theorem ab_nbytes : AB 316 128 := ⟨by decide, fun r w dd => rfl⟩
theorem al_out : AL 325 1 := ⟨by decide, fun r w dd => rfl⟩
section AM1
variable {I : a_I} {pc uc us : Nat} {ls st : List Value} {Q : a_Q} {M : Nat → Nat → Int32} {L : Nat → Nat → Int64} {dd : UInt64}
theorem m_get {ix c : Nat} (ci k : Nat) {vs : (Nat → Int32) → List Value} {v : Value} (hd : decode (i_cc I) pc = .ok (.getfield ix, 3)) (hf : a_FL (i_own I) ix ci k) (ho : OB c ci vs) (hv : (vs (M c))[k]? = some v) (kk : AW I (pc + 3) ls (v :: st) (hS M L dd) uc us Q) : AW I pc ls (.ref c :: st) (hS M L dd) uc us Q :=
  r_get ci k hd hf ((hp_at ho.1).trans (by rw [ho.2])) hv kk
theorem m_put {ix c : Nat} (ci k : Nat) {vs : (Nat → Int32) → List Value} {x : Int32} (hd : decode (i_cc I) pc = .ok (.putfield ix, 3)) (hf : a_FL (i_own I) ix ci k) (hfin : ∀ r, a_cls[ci]? = some r → (r.2.1 k).2.2 = ("I", false)) (ho : OB c ci vs) (hl : k < (vs (M c)).length) (hs : (vs (M c)).set k (.int x) = vs (upd (M c) k x))
    (kk : AW I (pc + 3) ls st (hS (mU M c (upd (M c) k x)) L dd) uc us Q) : AW I pc ls (.int x :: .ref c :: st) (hS M L dd) uc us Q := by
  refine r_put ci k hd hf hfin ((hp_at ho.1).trans (by rw [ho.2])) hl ?_
  show AW I (pc + 3) ls st (false, (hp M L dd).set c _) uc us Q
  rw [hp_setM (upd (M c) k x) _ (by rw [ho.2, hs])]
  exact kk
theorem m_iald {c n : Nat} {i : Int32} (k : Nat) (hd : decode (i_cc I) pc = .ok (.iaload, 1)) (ha : AI c n) (hi : i = nI k) (hk : k < n) (hn : n < 2 ^ 31) (kk : AW I (pc + 1) ls (.int (M c k) :: st) (hS M L dd) uc us Q) : AW I pc ls (.int i :: .ref c :: st) (hS M L dd) uc us Q := by
  subst hi
  refine r_iald hd ((hp_at ha.1).trans (by rw [ha.2])) (vp_in_nI hk hn) ?_
  rw [nI_clamp (by omega)]
  exact kk
theorem m_iast {c n : Nat} {i x : Int32} (k : Nat) (hd : decode (i_cc I) pc = .ok (.iastore, 1)) (ha : AI c n) (hi : i = nI k) (hk : k < n) (hn : n < 2 ^ 31) (kk : AW I (pc + 1) ls st (hS (mU M c (upd (M c) k x)) L dd) uc us Q) : AW I pc ls (.int x :: .int i :: .ref c :: st) (hS M L dd) uc us Q := by
  subst hi
  refine r_iast hd ((hp_at ha.1).trans (by rw [ha.2])) (vp_in_nI hk hn) ?_
  rw [nI_clamp (by omega)]
  show AW I (pc + 1) ls st (false, (hp M L dd).set c _) uc us Q
  rw [hp_setM (upd (M c) k x) _ (by rw [ha.2])]
  exact kk
theorem m_bald {c n : Nat} {i : Int32} (k : Nat) (hd : decode (i_cc I) pc = .ok (.baload, 1)) (ha : AB c n) (hi : i = nI k) (hk : k < n) (hn : n < 2 ^ 31) (kk : AW I (pc + 1) ls (.int (M c k) :: st) (hS M L dd) uc us Q) : AW I pc ls (.int i :: .ref c :: st) (hS M L dd) uc us Q := by
  subst hi
  refine r_bald hd ((hp_at ha.1).trans (by rw [ha.2])) (vp_in_nI hk hn) ?_
  rw [nI_clamp (by omega)]
  exact kk
theorem m_bast {c n : Nat} {i x : Int32} (k : Nat) (hd : decode (i_cc I) pc = .ok (.bastore, 1)) (ha : AB c n) (hi : i = nI k) (hk : k < n) (hn : n < 2 ^ 31) (kk : AW I (pc + 1) ls st (hS (mU M c (upd (M c) k x.toInt8.toInt32)) L dd) uc us Q) : AW I pc ls (.int x :: .int i :: .ref c :: st) (hS M L dd) uc us Q := by
  subst hi
  refine r_bast hd ((hp_at ha.1).trans (by rw [ha.2])) (vp_in_nI hk hn) ?_
  rw [nI_clamp (by omega)]
  show AW I (pc + 1) ls st (false, (hp M L dd).set c _) uc us Q
  rw [hp_setM (upd (M c) k x.toInt8.toInt32) _ (by rw [ha.2, vp_nar_byte])]
  exact kk
theorem m_lald {c n : Nat} {i : Int32} (k : Nat) (hd : decode (i_cc I) pc = .ok (.laload, 1)) (ha : AL c n) (hi : i = nI k) (hk : k < n) (hn : n < 2 ^ 31) (kk : AW I (pc + 1) ls (.long (L c k) :: st) (hS M L dd) uc us Q) : AW I pc ls (.int i :: .ref c :: st) (hS M L dd) uc us Q := by
  subst hi
  refine r_lald hd ((hp_at ha.1).trans (by rw [ha.2])) (vp_in_nI hk hn) ?_
  rw [nI_clamp (by omega)]
  exact kk
theorem m_last {c n : Nat} {i : Int32} {x : Int64} (k : Nat) (hd : decode (i_cc I) pc = .ok (.lastore, 1)) (ha : AL c n) (hi : i = nI k) (hk : k < n) (hn : n < 2 ^ 31) (kk : AW I (pc + 1) ls st (hS M (mL L c (vp_updL (L c) k x)) dd) uc us Q) : AW I pc ls (.long x :: .int i :: .ref c :: st) (hS M L dd) uc us Q := by
  subst hi
  refine r_last hd ((hp_at ha.1).trans (by rw [ha.2])) (vp_in_nI hk hn) ?_
  rw [nI_clamp (by omega)]
  show AW I (pc + 1) ls st (false, (hp M L dd).set c _) uc us Q
  rw [hp_setL (vp_updL (L c) k x) _ (by rw [ha.2])]
  exact kk
/-- System.arraycopy of whole rows: n ints from the start -/
theorem m_copy {ix a0 a n0 n1 : Nat} {n : Int32} (N : Nat) (hd : decode (i_cc I) pc = .ok (.invokestatic ix, 3)) (hw : a_AC (i_own I) ix) (h0 : AI a0 n0) (h1 : AI a n1) (hn : n = nI N) (g4 : N ≤ n0) (g5 : N ≤ n1) (gn : N < 2 ^ 31) (hdp : 1 ≤ i_d I) (hst : (st.map fun v => v.category).sum ≤ 8)
    (kk : AW I (pc + 3) ls st (hS (mU M a (fun k => if k < N then M a0 k else M a k)) L dd) uc us Q) : AW I pc ls (.int n :: .int 0 :: .ref a :: .int 0 :: .ref a0 :: st) (hS M L dd) uc us Q := by
  subst hn
  refine r_copyi hd hw ((hp_at h0.1).trans (by rw [h0.2])) ((hp_at h1.1).trans (by rw [h1.2])) (by decide) (by decide) (nI_pos gn) ?_ ?_ hdp hst ?_
  · rw [nI_clamp gn]; show 0 + N ≤ n0; omega
  · rw [nI_clamp gn]; show 0 + N ≤ n1; omega
  · show AW I (pc + 3) ls st (false, (hp M L dd).set a _) uc us Q
    rw [nI_clamp gn, hp_setM (fun k => if k < N then M a0 k else M a k) _ ?_]
    · exact kk
    · rw [h1.2]
      have e : (fun k => if k < N then M a0 k else M a k) = va_cpy (M a0) (M a) 0 0 N := by
        funext k
        unfold va_cpy
        simp
      rw [e]
      rfl
/-- a call of a method that answers at once, makes nothing and throws nothing: (dynamic) -/
theorem m_cv {ix c ci n : Nat} {y : MethodName} {I' : a_I} {As : List Value} {vs : (Nat → Int32) → List Value} {v : Option Value} {h' : a_H} (hd : decode (i_cc I) pc = .ok (.invokevirtual ix, 3)) (hc : a_CV (i_own I) ix y I' n) (hM : AD y I' (.ref c :: As) (hS M L dd) (.inl v) h') (hh : h'.1 = false) (hn : As.length = n) (ho : OB c ci vs) (hci : ∃ r, a_cls[ci]? = some r ∧ r.1 = y.cls)
    (hz : i_mc I' = 0 ∧ i_ms I' = 0) (hd1 : i_d I' + 1 ≤ i_d I) (hnl : i_nL I' ≤ 40) (hst : (st.map fun v => v.category).sum ≤ 8) (kk : AW I (pc + 3) ls (v.toList ++ st) h' uc us Q) : AW I pc ls (As.reverse ++ .ref c :: st) (hS M L dd) uc us Q := by
  intro V p l e R s m args below meth c9 H locs Gl ws tys lsC hC hR hN hH hS hu hv2 hL
  refine r_callV (Q' := fun o h2 => o = .inl v ∧ h2 = h') hd hc (hM _ ⟨rfl, rfl⟩) hn ((hp_at ho.1).trans (by rw [ho.2])) hci ⟨hd1, hnl, hst, by rw [hz.1]; exact hu, by rw [hz.2]; exact hv2⟩ ⟨?_, ?_⟩ V p l e R s m args below meth c9 H locs Gl ws tys lsC hC hR hN hH hS hu hv2 hL
  · rintro v2 h2 ⟨h3, rfl⟩
    cases h3
    refine ⟨fun z => absurd (hh.symm.trans z) (by decide), ?_⟩
    rw [hz.1, hz.2]
    exact kk
  · rintro E h2 ⟨h3, -⟩
    cases h3
theorem m_cs {ix n : Nat} {y : MethodName} {I' : a_I} {As : List Value} {v : Option Value} {h' : a_H} (hd : decode (i_cc I) pc = .ok (.invokestatic ix, 3)) (hc : a_CS (i_own I) ix y I' n) (hM : AD y I' As (hS M L dd) (.inl v) h') (hh : h'.1 = false) (hn : As.length = n)
    (hz : i_mc I' = 0 ∧ i_ms I' = 0) (hd1 : i_d I' + 1 ≤ i_d I) (hnl : i_nL I' ≤ 40) (hst : (st.map fun v => v.category).sum ≤ 8) (kk : AW I (pc + 3) ls (v.toList ++ st) h' uc us Q) : AW I pc ls (As.reverse ++ st) (hS M L dd) uc us Q := by
  intro V p l e R s m args below meth c9 H locs Gl ws tys lsC hC hR hN hH hS hu hv2 hL
  refine r_callS (Q' := fun o h2 => o = .inl v ∧ h2 = h') hd hc (hM _ ⟨rfl, rfl⟩) hn ⟨hd1, hnl, hst, by rw [hz.1]; exact hu, by rw [hz.2]; exact hv2⟩ ⟨?_, ?_⟩ V p l e R s m args below meth c9 H locs Gl ws tys lsC hC hR hN hH hS hu hv2 hL
  · rintro v2 h2 ⟨h3, rfl⟩
    cases h3
    refine ⟨fun z => absurd (hh.symm.trans z) (by decide), ?_⟩
    rw [hz.1, hz.2]
    exact kk
  · rintro E h2 ⟨h3, -⟩
    cases h3
theorem m_eq {ls' : List Value} {M' : Nat → Nat → Int32} {L' : Nat → Nat → Int64} (k : AW I pc ls st (hS M L dd) uc us Q) (h1 : ls = ls') (h2 : M = M') (h3 : L = L') : AW I pc ls' st (hS M' L' dd) uc us Q := by
  subst h1; subst h2; subst h3; exact k
end AM1
theorem lp_up {N : Nat} (F : Nat → Prop) (hx : F N) (hs : ∀ k, k < N → F (k + 1) → F k) : ∀ k, k ≤ N → F k := by
  intro k hk
  obtain ⟨d, rfl⟩ : ∃ d, N = k + d := ⟨N - k, by omega⟩
  induction d generalizing k with
  | zero => exact hx
  | succ d ih => exact hs k (by omega) (ih (k + 1) (by rw [show k + 1 + d = k + (d + 1) by omega]; exact hx) (by rw [show k + 1 + d = k + (d + 1) by omega]; exact hs) (by omega))
end
