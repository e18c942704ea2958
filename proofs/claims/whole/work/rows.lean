section
-- ===== PART A: goes FIRST, ahead of the names: the tables' words, and 'selects' of the private methods out of them =====
/-- a private method of a class that the tables say can be made, by its rows of tables_1 -/
def lw_okq (q : MethodName × Nat) : Prop := (q.1.cls ≠ "java/lang/invoke/MethodHandle" ∧ q.1.cls ≠ "java/lang/invoke/VarHandle") ∧ Cond.instantiable q.1.cls q.2 ∈ tables_1 ∧ Cond.privateMethod q.1 ∈ tables_1 ∧ Cond.instanceMethod q.1 ∈ tables_1
theorem lw_p0 : lw_okq (⟨"FaultLists$Reader", "readInputs", "(LFaultLists$Pile;)V"⟩, 5) := ⟨⟨by decide +kernel, by decide +kernel⟩, List.mem_of_getElem? (i := 61) (by decide +kernel), List.mem_of_getElem? (i := 463) (by decide +kernel), List.mem_of_getElem? (i := 464) (by decide +kernel)⟩
theorem lw_p1 : lw_okq (⟨"FaultLists$Reader", "signOf", "(LFaultLists$Pile;)I"⟩, 5) := ⟨⟨by decide +kernel, by decide +kernel⟩, List.mem_of_getElem? (i := 61) (by decide +kernel), List.mem_of_getElem? (i := 467) (by decide +kernel), List.mem_of_getElem? (i := 468) (by decide +kernel)⟩
theorem lw_p2 : lw_okq (⟨"FaultLists$Reader", "refuse", "(ZII)V"⟩, 5) := ⟨⟨by decide +kernel, by decide +kernel⟩, List.mem_of_getElem? (i := 61) (by decide +kernel), List.mem_of_getElem? (i := 477) (by decide +kernel), List.mem_of_getElem? (i := 478) (by decide +kernel)⟩
theorem lw_p3 : lw_okq (⟨"FaultLists$Reader", "because", "(II)V"⟩, 5) := ⟨⟨by decide +kernel, by decide +kernel⟩, List.mem_of_getElem? (i := 61) (by decide +kernel), List.mem_of_getElem? (i := 481) (by decide +kernel), List.mem_of_getElem? (i := 482) (by decide +kernel)⟩
theorem lw_p4 : lw_okq (⟨"FaultLists$Reader", "readLine", "(LFaultLists$Pile;)V"⟩, 5) := ⟨⟨by decide +kernel, by decide +kernel⟩, List.mem_of_getElem? (i := 61) (by decide +kernel), List.mem_of_getElem? (i := 487) (by decide +kernel), List.mem_of_getElem? (i := 488) (by decide +kernel)⟩
theorem lw_p5 : lw_okq (⟨"FaultLists$Reader", "readPin", "(LFaultLists$Pile;I)V"⟩, 5) := ⟨⟨by decide +kernel, by decide +kernel⟩, List.mem_of_getElem? (i := 61) (by decide +kernel), List.mem_of_getElem? (i := 578) (by decide +kernel), List.mem_of_getElem? (i := 579) (by decide +kernel)⟩
theorem lw_p6 : lw_okq (⟨"FaultLists$Reader", "letterOf", "(LFaultLists$Pile;)I"⟩, 5) := ⟨⟨by decide +kernel, by decide +kernel⟩, List.mem_of_getElem? (i := 61) (by decide +kernel), List.mem_of_getElem? (i := 582) (by decide +kernel), List.mem_of_getElem? (i := 583) (by decide +kernel)⟩
theorem lw_p7 : lw_okq (⟨"FaultLists$Reader", "readStart", "(LFaultLists$Pile;)I"⟩, 5) := ⟨⟨by decide +kernel, by decide +kernel⟩, List.mem_of_getElem? (i := 61) (by decide +kernel), List.mem_of_getElem? (i := 590) (by decide +kernel), List.mem_of_getElem? (i := 591) (by decide +kernel)⟩
theorem lw_p8 : lw_okq (⟨"FaultLists$Reader", "readOutputs", "(LFaultLists$Pile;)V"⟩, 5) := ⟨⟨by decide +kernel, by decide +kernel⟩, List.mem_of_getElem? (i := 61) (by decide +kernel), List.mem_of_getElem? (i := 595) (by decide +kernel), List.mem_of_getElem? (i := 596) (by decide +kernel)⟩
theorem lw_p9 : lw_okq (⟨"FaultLists$Reader", "readOutput", "(LFaultLists$Pile;)V"⟩, 5) := ⟨⟨by decide +kernel, by decide +kernel⟩, List.mem_of_getElem? (i := 61) (by decide +kernel), List.mem_of_getElem? (i := 599) (by decide +kernel), List.mem_of_getElem? (i := 600) (by decide +kernel)⟩
theorem lw_p10 : lw_okq (⟨"FaultLists$Reader", "askRegisters", "()I"⟩, 5) := ⟨⟨by decide +kernel, by decide +kernel⟩, List.mem_of_getElem? (i := 61) (by decide +kernel), List.mem_of_getElem? (i := 609) (by decide +kernel), List.mem_of_getElem? (i := 610) (by decide +kernel)⟩
theorem lw_p11 : lw_okq (⟨"FaultLists", "applyText", "(LFaultLists$Run;)I"⟩, 13) := ⟨⟨by decide +kernel, by decide +kernel⟩, List.mem_of_getElem? (i := 26) (by decide +kernel), List.mem_of_getElem? (i := 645) (by decide +kernel), List.mem_of_getElem? (i := 646) (by decide +kernel)⟩
theorem lw_p12 : lw_okq (⟨"FaultLists", "badSign", "(II)I"⟩, 13) := ⟨⟨by decide +kernel, by decide +kernel⟩, List.mem_of_getElem? (i := 26) (by decide +kernel), List.mem_of_getElem? (i := 649) (by decide +kernel), List.mem_of_getElem? (i := 650) (by decide +kernel)⟩
theorem lw_p13 : lw_okq (⟨"FaultLists", "patternAt", "(II)I"⟩, 13) := ⟨⟨by decide +kernel, by decide +kernel⟩, List.mem_of_getElem? (i := 26) (by decide +kernel), List.mem_of_getElem? (i := 667) (by decide +kernel), List.mem_of_getElem? (i := 668) (by decide +kernel)⟩
theorem lw_p14 : lw_okq (⟨"FaultLists$Side", "work", "(LFaultLists$Net;IJLFaultLists$Cells;LFaultLists$Cells;)V"⟩, 4) := ⟨⟨by decide +kernel, by decide +kernel⟩, List.mem_of_getElem? (i := 188) (by decide +kernel), List.mem_of_getElem? (i := 691) (by decide +kernel), List.mem_of_getElem? (i := 692) (by decide +kernel)⟩
theorem lw_p15 : lw_okq (⟨"FaultLists$Side", "stick", "(IJ)V"⟩, 4) := ⟨⟨by decide +kernel, by decide +kernel⟩, List.mem_of_getElem? (i := 188) (by decide +kernel), List.mem_of_getElem? (i := 702) (by decide +kernel), List.mem_of_getElem? (i := 703) (by decide +kernel)⟩
def lw_privs_1 : List (MethodName × Nat) := [(⟨"FaultLists$Reader", "readInputs", "(LFaultLists$Pile;)V"⟩, 5), (⟨"FaultLists$Reader", "signOf", "(LFaultLists$Pile;)I"⟩, 5), (⟨"FaultLists$Reader", "refuse", "(ZII)V"⟩, 5), (⟨"FaultLists$Reader", "because", "(II)V"⟩, 5), (⟨"FaultLists$Reader", "readLine", "(LFaultLists$Pile;)V"⟩, 5), (⟨"FaultLists$Reader", "readPin", "(LFaultLists$Pile;I)V"⟩, 5), (⟨"FaultLists$Reader", "letterOf", "(LFaultLists$Pile;)I"⟩, 5), (⟨"FaultLists$Reader", "readStart", "(LFaultLists$Pile;)I"⟩, 5), (⟨"FaultLists$Reader", "readOutputs", "(LFaultLists$Pile;)V"⟩, 5), (⟨"FaultLists$Reader", "readOutput", "(LFaultLists$Pile;)V"⟩, 5), (⟨"FaultLists$Reader", "askRegisters", "()I"⟩, 5), (⟨"FaultLists", "applyText", "(LFaultLists$Run;)I"⟩, 13), (⟨"FaultLists", "badSign", "(II)I"⟩, 13), (⟨"FaultLists", "patternAt", "(II)I"⟩, 13), (⟨"FaultLists$Side", "work", "(LFaultLists$Net;IJLFaultLists$Cells;LFaultLists$Cells;)V"⟩, 4), (⟨"FaultLists$Side", "stick", "(IJ)V"⟩, 4)]
theorem lw_r1 : ∀ q ∈ lw_privs_1, lw_okq q := List.forall_mem_cons.mpr ⟨lw_p0, List.forall_mem_cons.mpr ⟨lw_p1, List.forall_mem_cons.mpr ⟨lw_p2, List.forall_mem_cons.mpr ⟨lw_p3, List.forall_mem_cons.mpr ⟨lw_p4, List.forall_mem_cons.mpr ⟨lw_p5, List.forall_mem_cons.mpr ⟨lw_p6, List.forall_mem_cons.mpr ⟨lw_p7, List.forall_mem_cons.mpr ⟨lw_p8, List.forall_mem_cons.mpr ⟨lw_p9, List.forall_mem_cons.mpr ⟨lw_p10, List.forall_mem_cons.mpr ⟨lw_p11, List.forall_mem_cons.mpr ⟨lw_p12, List.forall_mem_cons.mpr ⟨lw_p13, List.forall_mem_cons.mpr ⟨lw_p14, List.forall_mem_cons.mpr ⟨lw_p15, fun _ h => absurd h List.not_mem_nil⟩⟩⟩⟩⟩⟩⟩⟩⟩⟩⟩⟩⟩⟩⟩⟩
theorem lw_p16 : lw_okq (⟨"FaultLists$Run", "note", "(J)V"⟩, 10) := ⟨⟨by decide +kernel, by decide +kernel⟩, List.mem_of_getElem? (i := 174) (by decide +kernel), List.mem_of_getElem? (i := 721) (by decide +kernel), List.mem_of_getElem? (i := 722) (by decide +kernel)⟩
theorem lw_p17 : lw_okq (⟨"FaultLists$Run", "outputsShowing", "(I)J"⟩, 10) := ⟨⟨by decide +kernel, by decide +kernel⟩, List.mem_of_getElem? (i := 174) (by decide +kernel), List.mem_of_getElem? (i := 729) (by decide +kernel), List.mem_of_getElem? (i := 730) (by decide +kernel)⟩
theorem lw_p18 : lw_okq (⟨"FaultLists", "tell", "(J)V"⟩, 13) := ⟨⟨by decide +kernel, by decide +kernel⟩, List.mem_of_getElem? (i := 26) (by decide +kernel), List.mem_of_getElem? (i := 740) (by decide +kernel), List.mem_of_getElem? (i := 741) (by decide +kernel)⟩
theorem lw_p19 : lw_okq (⟨"FaultLists$Kin", "joinThroughGate", "(LFaultLists$Net;II)V"⟩, 1) := ⟨⟨by decide +kernel, by decide +kernel⟩, List.mem_of_getElem? (i := 275) (by decide +kernel), List.mem_of_getElem? (i := 857) (by decide +kernel), List.mem_of_getElem? (i := 858) (by decide +kernel)⟩
theorem lw_p20 : lw_okq (⟨"FaultLists$Kin", "join", "(II)V"⟩, 1) := ⟨⟨by decide +kernel, by decide +kernel⟩, List.mem_of_getElem? (i := 275) (by decide +kernel), List.mem_of_getElem? (i := 863) (by decide +kernel), List.mem_of_getElem? (i := 864) (by decide +kernel)⟩
theorem lw_p21 : lw_okq (⟨"FaultLists$Search", "reach", "(IIII)V"⟩, 9) := ⟨⟨by decide +kernel, by decide +kernel⟩, List.mem_of_getElem? (i := 288) (by decide +kernel), List.mem_of_getElem? (i := 904) (by decide +kernel), List.mem_of_getElem? (i := 905) (by decide +kernel)⟩
theorem lw_p22 : lw_okq (⟨"FaultLists$Search", "follow", "(LFaultLists$Net;III)Z"⟩, 9) := ⟨⟨by decide +kernel, by decide +kernel⟩, List.mem_of_getElem? (i := 288) (by decide +kernel), List.mem_of_getElem? (i := 911) (by decide +kernel), List.mem_of_getElem? (i := 912) (by decide +kernel)⟩
theorem lw_p23 : lw_okq (⟨"FaultLists$Moves", "holdState", "(LFaultLists$Net;I)V"⟩, 4) := ⟨⟨by decide +kernel, by decide +kernel⟩, List.mem_of_getElem? (i := 296) (by decide +kernel), List.mem_of_getElem? (i := 921) (by decide +kernel), List.mem_of_getElem? (i := 922) (by decide +kernel)⟩
theorem lw_p24 : lw_okq (⟨"FaultLists$Moves", "write", "(LFaultLists$Net;I)V"⟩, 4) := ⟨⟨by decide +kernel, by decide +kernel⟩, List.mem_of_getElem? (i := 296) (by decide +kernel), List.mem_of_getElem? (i := 931) (by decide +kernel), List.mem_of_getElem? (i := 932) (by decide +kernel)⟩
theorem lw_p25 : lw_okq (⟨"FaultLists$Search", "trace", "(III)V"⟩, 9) := ⟨⟨by decide +kernel, by decide +kernel⟩, List.mem_of_getElem? (i := 288) (by decide +kernel), List.mem_of_getElem? (i := 945) (by decide +kernel), List.mem_of_getElem? (i := 946) (by decide +kernel)⟩
theorem lw_p26 : lw_okq (⟨"FaultLists", "catchesAll", "(I)Z"⟩, 13) := ⟨⟨by decide +kernel, by decide +kernel⟩, List.mem_of_getElem? (i := 26) (by decide +kernel), List.mem_of_getElem? (i := 957) (by decide +kernel), List.mem_of_getElem? (i := 958) (by decide +kernel)⟩
theorem lw_p27 : lw_okq (⟨"FaultLists", "blameBySeen", "()I"⟩, 13) := ⟨⟨by decide +kernel, by decide +kernel⟩, List.mem_of_getElem? (i := 26) (by decide +kernel), List.mem_of_getElem? (i := 972) (by decide +kernel), List.mem_of_getElem? (i := 973) (by decide +kernel)⟩
theorem lw_p28 : lw_okq (⟨"FaultLists", "largestAlike", "(LFaultLists$Side;)I"⟩, 13) := ⟨⟨by decide +kernel, by decide +kernel⟩, List.mem_of_getElem? (i := 26) (by decide +kernel), List.mem_of_getElem? (i := 986) (by decide +kernel), List.mem_of_getElem? (i := 987) (by decide +kernel)⟩
theorem lw_p29 : lw_okq (⟨"java/lang/Throwable", "fillInStackTrace", "(I)Ljava/lang/Throwable;"⟩, 6) := ⟨⟨by decide +kernel, by decide +kernel⟩, List.mem_of_getElem? (i := 1061) (by decide +kernel), List.mem_of_getElem? (i := 1059) (by decide +kernel), List.mem_of_getElem? (i := 1060) (by decide +kernel)⟩
theorem lw_p30 : lw_okq (⟨"FaultListsModel", "reads", "()V"⟩, 34) := ⟨⟨by decide +kernel, by decide +kernel⟩, List.mem_of_getElem? (i := 1116) (by decide +kernel), List.mem_of_getElem? (i := 1231) (by decide +kernel), List.mem_of_getElem? (i := 1232) (by decide +kernel)⟩
theorem lw_p31 : lw_okq (⟨"FaultListsModel", "readsNet", "()I"⟩, 34) := ⟨⟨by decide +kernel, by decide +kernel⟩, List.mem_of_getElem? (i := 1116) (by decide +kernel), List.mem_of_getElem? (i := 1235) (by decide +kernel), List.mem_of_getElem? (i := 1236) (by decide +kernel)⟩
def lw_privs_2 : List (MethodName × Nat) := [(⟨"FaultLists$Run", "note", "(J)V"⟩, 10), (⟨"FaultLists$Run", "outputsShowing", "(I)J"⟩, 10), (⟨"FaultLists", "tell", "(J)V"⟩, 13), (⟨"FaultLists$Kin", "joinThroughGate", "(LFaultLists$Net;II)V"⟩, 1), (⟨"FaultLists$Kin", "join", "(II)V"⟩, 1), (⟨"FaultLists$Search", "reach", "(IIII)V"⟩, 9), (⟨"FaultLists$Search", "follow", "(LFaultLists$Net;III)Z"⟩, 9), (⟨"FaultLists$Moves", "holdState", "(LFaultLists$Net;I)V"⟩, 4), (⟨"FaultLists$Moves", "write", "(LFaultLists$Net;I)V"⟩, 4), (⟨"FaultLists$Search", "trace", "(III)V"⟩, 9), (⟨"FaultLists", "catchesAll", "(I)Z"⟩, 13), (⟨"FaultLists", "blameBySeen", "()I"⟩, 13), (⟨"FaultLists", "largestAlike", "(LFaultLists$Side;)I"⟩, 13), (⟨"java/lang/Throwable", "fillInStackTrace", "(I)Ljava/lang/Throwable;"⟩, 6), (⟨"FaultListsModel", "reads", "()V"⟩, 34), (⟨"FaultListsModel", "readsNet", "()I"⟩, 34)]
theorem lw_r2 : ∀ q ∈ lw_privs_2, lw_okq q := List.forall_mem_cons.mpr ⟨lw_p16, List.forall_mem_cons.mpr ⟨lw_p17, List.forall_mem_cons.mpr ⟨lw_p18, List.forall_mem_cons.mpr ⟨lw_p19, List.forall_mem_cons.mpr ⟨lw_p20, List.forall_mem_cons.mpr ⟨lw_p21, List.forall_mem_cons.mpr ⟨lw_p22, List.forall_mem_cons.mpr ⟨lw_p23, List.forall_mem_cons.mpr ⟨lw_p24, List.forall_mem_cons.mpr ⟨lw_p25, List.forall_mem_cons.mpr ⟨lw_p26, List.forall_mem_cons.mpr ⟨lw_p27, List.forall_mem_cons.mpr ⟨lw_p28, List.forall_mem_cons.mpr ⟨lw_p29, List.forall_mem_cons.mpr ⟨lw_p30, List.forall_mem_cons.mpr ⟨lw_p31, fun _ h => absurd h List.not_mem_nil⟩⟩⟩⟩⟩⟩⟩⟩⟩⟩⟩⟩⟩⟩⟩⟩
theorem lw_p32 : lw_okq (⟨"FaultListsModel", "takesOf", "(Ljava/lang/String;)I"⟩, 34) := ⟨⟨by decide +kernel, by decide +kernel⟩, List.mem_of_getElem? (i := 1116) (by decide +kernel), List.mem_of_getElem? (i := 1240) (by decide +kernel), List.mem_of_getElem? (i := 1241) (by decide +kernel)⟩
theorem lw_p33 : lw_okq (⟨"FaultListsModel", "seen", "(Ljava/lang/String;)I"⟩, 34) := ⟨⟨by decide +kernel, by decide +kernel⟩, List.mem_of_getElem? (i := 1116) (by decide +kernel), List.mem_of_getElem? (i := 1244) (by decide +kernel), List.mem_of_getElem? (i := 1245) (by decide +kernel)⟩
theorem lw_p34 : lw_okq (⟨"FaultListsModel", "fails", "(IIII)I"⟩, 34) := ⟨⟨by decide +kernel, by decide +kernel⟩, List.mem_of_getElem? (i := 1116) (by decide +kernel), List.mem_of_getElem? (i := 1275) (by decide +kernel), List.mem_of_getElem? (i := 1276) (by decide +kernel)⟩
theorem lw_p35 : lw_okq (⟨"FaultListsModel", "causes", "(II)V"⟩, 34) := ⟨⟨by decide +kernel, by decide +kernel⟩, List.mem_of_getElem? (i := 1116) (by decide +kernel), List.mem_of_getElem? (i := 1279) (by decide +kernel), List.mem_of_getElem? (i := 1280) (by decide +kernel)⟩
theorem lw_p36 : lw_okq (⟨"FaultListsModel", "readsLine", "()I"⟩, 34) := ⟨⟨by decide +kernel, by decide +kernel⟩, List.mem_of_getElem? (i := 1116) (by decide +kernel), List.mem_of_getElem? (i := 1284) (by decide +kernel), List.mem_of_getElem? (i := 1285) (by decide +kernel)⟩
theorem lw_p37 : lw_okq (⟨"FaultListsModel", "readsPin", "(II)I"⟩, 34) := ⟨⟨by decide +kernel, by decide +kernel⟩, List.mem_of_getElem? (i := 1116) (by decide +kernel), List.mem_of_getElem? (i := 1289) (by decide +kernel), List.mem_of_getElem? (i := 1290) (by decide +kernel)⟩
theorem lw_p38 : lw_okq (⟨"FaultListsModel", "readsOutputs", "()I"⟩, 34) := ⟨⟨by decide +kernel, by decide +kernel⟩, List.mem_of_getElem? (i := 1116) (by decide +kernel), List.mem_of_getElem? (i := 1296) (by decide +kernel), List.mem_of_getElem? (i := 1297) (by decide +kernel)⟩
theorem lw_p39 : lw_okq (⟨"FaultListsModel", "copies", "(IIII)V"⟩, 34) := ⟨⟨by decide +kernel, by decide +kernel⟩, List.mem_of_getElem? (i := 1116) (by decide +kernel), List.mem_of_getElem? (i := 1300) (by decide +kernel), List.mem_of_getElem? (i := 1301) (by decide +kernel)⟩
theorem lw_p40 : lw_okq (⟨"FaultListsModel", "faults", "()I"⟩, 34) := ⟨⟨by decide +kernel, by decide +kernel⟩, List.mem_of_getElem? (i := 1116) (by decide +kernel), List.mem_of_getElem? (i := 1304) (by decide +kernel), List.mem_of_getElem? (i := 1305) (by decide +kernel)⟩
theorem lw_p41 : lw_okq (⟨"FaultListsModel", "isLine", "(I)Z"⟩, 34) := ⟨⟨by decide +kernel, by decide +kernel⟩, List.mem_of_getElem? (i := 1116) (by decide +kernel), List.mem_of_getElem? (i := 1316) (by decide +kernel), List.mem_of_getElem? (i := 1317) (by decide +kernel)⟩
theorem lw_p42 : lw_okq (⟨"FaultListsModel", "lines", "()I"⟩, 34) := ⟨⟨by decide +kernel, by decide +kernel⟩, List.mem_of_getElem? (i := 1116) (by decide +kernel), List.mem_of_getElem? (i := 1320) (by decide +kernel), List.mem_of_getElem? (i := 1321) (by decide +kernel)⟩
theorem lw_p43 : lw_okq (⟨"FaultListsModel", "isRegister", "(I)Z"⟩, 34) := ⟨⟨by decide +kernel, by decide +kernel⟩, List.mem_of_getElem? (i := 1116) (by decide +kernel), List.mem_of_getElem? (i := 1325) (by decide +kernel), List.mem_of_getElem? (i := 1326) (by decide +kernel)⟩
theorem lw_p44 : lw_okq (⟨"FaultListsModel", "isOutput", "(I)Z"⟩, 34) := ⟨⟨by decide +kernel, by decide +kernel⟩, List.mem_of_getElem? (i := 1116) (by decide +kernel), List.mem_of_getElem? (i := 1329) (by decide +kernel), List.mem_of_getElem? (i := 1330) (by decide +kernel)⟩
theorem lw_p45 : lw_okq (⟨"FaultListsModel", "readersOf", "(I)I"⟩, 34) := ⟨⟨by decide +kernel, by decide +kernel⟩, List.mem_of_getElem? (i := 1116) (by decide +kernel), List.mem_of_getElem? (i := 1333) (by decide +kernel), List.mem_of_getElem? (i := 1334) (by decide +kernel)⟩
theorem lw_p46 : lw_okq (⟨"FaultListsModel", "appliesAll", "()I"⟩, 34) := ⟨⟨by decide +kernel, by decide +kernel⟩, List.mem_of_getElem? (i := 1116) (by decide +kernel), List.mem_of_getElem? (i := 1345) (by decide +kernel), List.mem_of_getElem? (i := 1346) (by decide +kernel)⟩
theorem lw_p47 : lw_okq (⟨"FaultListsModel", "inputs", "()I"⟩, 34) := ⟨⟨by decide +kernel, by decide +kernel⟩, List.mem_of_getElem? (i := 1116) (by decide +kernel), List.mem_of_getElem? (i := 1350) (by decide +kernel), List.mem_of_getElem? (i := 1351) (by decide +kernel)⟩
def lw_privs_3 : List (MethodName × Nat) := [(⟨"FaultListsModel", "takesOf", "(Ljava/lang/String;)I"⟩, 34), (⟨"FaultListsModel", "seen", "(Ljava/lang/String;)I"⟩, 34), (⟨"FaultListsModel", "fails", "(IIII)I"⟩, 34), (⟨"FaultListsModel", "causes", "(II)V"⟩, 34), (⟨"FaultListsModel", "readsLine", "()I"⟩, 34), (⟨"FaultListsModel", "readsPin", "(II)I"⟩, 34), (⟨"FaultListsModel", "readsOutputs", "()I"⟩, 34), (⟨"FaultListsModel", "copies", "(IIII)V"⟩, 34), (⟨"FaultListsModel", "faults", "()I"⟩, 34), (⟨"FaultListsModel", "isLine", "(I)Z"⟩, 34), (⟨"FaultListsModel", "lines", "()I"⟩, 34), (⟨"FaultListsModel", "isRegister", "(I)Z"⟩, 34), (⟨"FaultListsModel", "isOutput", "(I)Z"⟩, 34), (⟨"FaultListsModel", "readersOf", "(I)I"⟩, 34), (⟨"FaultListsModel", "appliesAll", "()I"⟩, 34), (⟨"FaultListsModel", "inputs", "()I"⟩, 34)]
theorem lw_r3 : ∀ q ∈ lw_privs_3, lw_okq q := List.forall_mem_cons.mpr ⟨lw_p32, List.forall_mem_cons.mpr ⟨lw_p33, List.forall_mem_cons.mpr ⟨lw_p34, List.forall_mem_cons.mpr ⟨lw_p35, List.forall_mem_cons.mpr ⟨lw_p36, List.forall_mem_cons.mpr ⟨lw_p37, List.forall_mem_cons.mpr ⟨lw_p38, List.forall_mem_cons.mpr ⟨lw_p39, List.forall_mem_cons.mpr ⟨lw_p40, List.forall_mem_cons.mpr ⟨lw_p41, List.forall_mem_cons.mpr ⟨lw_p42, List.forall_mem_cons.mpr ⟨lw_p43, List.forall_mem_cons.mpr ⟨lw_p44, List.forall_mem_cons.mpr ⟨lw_p45, List.forall_mem_cons.mpr ⟨lw_p46, List.forall_mem_cons.mpr ⟨lw_p47, fun _ h => absurd h List.not_mem_nil⟩⟩⟩⟩⟩⟩⟩⟩⟩⟩⟩⟩⟩⟩⟩⟩
theorem lw_p48 : lw_okq (⟨"FaultListsModel", "ticks", "()I"⟩, 34) := ⟨⟨by decide +kernel, by decide +kernel⟩, List.mem_of_getElem? (i := 1116) (by decide +kernel), List.mem_of_getElem? (i := 1354) (by decide +kernel), List.mem_of_getElem? (i := 1355) (by decide +kernel)⟩
theorem lw_p49 : lw_okq (⟨"FaultListsModel", "runsAll", "()V"⟩, 34) := ⟨⟨by decide +kernel, by decide +kernel⟩, List.mem_of_getElem? (i := 1116) (by decide +kernel), List.mem_of_getElem? (i := 1358) (by decide +kernel), List.mem_of_getElem? (i := 1359) (by decide +kernel)⟩
theorem lw_p50 : lw_okq (⟨"FaultListsModel", "takesRun", "()V"⟩, 34) := ⟨⟨by decide +kernel, by decide +kernel⟩, List.mem_of_getElem? (i := 1116) (by decide +kernel), List.mem_of_getElem? (i := 1362) (by decide +kernel), List.mem_of_getElem? (i := 1363) (by decide +kernel)⟩
theorem lw_p51 : lw_okq (⟨"FaultListsModel", "laysGood", "()V"⟩, 34) := ⟨⟨by decide +kernel, by decide +kernel⟩, List.mem_of_getElem? (i := 1116) (by decide +kernel), List.mem_of_getElem? (i := 1366) (by decide +kernel), List.mem_of_getElem? (i := 1367) (by decide +kernel)⟩
theorem lw_p52 : lw_okq (⟨"FaultListsModel", "starts", "()V"⟩, 34) := ⟨⟨by decide +kernel, by decide +kernel⟩, List.mem_of_getElem? (i := 1116) (by decide +kernel), List.mem_of_getElem? (i := 1370) (by decide +kernel), List.mem_of_getElem? (i := 1371) (by decide +kernel)⟩
theorem lw_p53 : lw_okq (⟨"FaultListsModel", "tick", "(II)V"⟩, 34) := ⟨⟨by decide +kernel, by decide +kernel⟩, List.mem_of_getElem? (i := 1116) (by decide +kernel), List.mem_of_getElem? (i := 1374) (by decide +kernel), List.mem_of_getElem? (i := 1375) (by decide +kernel)⟩
theorem lw_p54 : lw_okq (⟨"FaultListsModel", "lays", "(II)V"⟩, 34) := ⟨⟨by decide +kernel, by decide +kernel⟩, List.mem_of_getElem? (i := 1116) (by decide +kernel), List.mem_of_getElem? (i := 1378) (by decide +kernel), List.mem_of_getElem? (i := 1379) (by decide +kernel)⟩
theorem lw_p55 : lw_okq (⟨"FaultListsModel", "gated", "(II)I"⟩, 34) := ⟨⟨by decide +kernel, by decide +kernel⟩, List.mem_of_getElem? (i := 1116) (by decide +kernel), List.mem_of_getElem? (i := 1385) (by decide +kernel), List.mem_of_getElem? (i := 1386) (by decide +kernel)⟩
theorem lw_p56 : lw_okq (⟨"FaultListsModel", "pinned", "(II)I"⟩, 34) := ⟨⟨by decide +kernel, by decide +kernel⟩, List.mem_of_getElem? (i := 1116) (by decide +kernel), List.mem_of_getElem? (i := 1389) (by decide +kernel), List.mem_of_getElem? (i := 1390) (by decide +kernel)⟩
theorem lw_p57 : lw_okq (⟨"FaultListsModel", "runs", "(I)V"⟩, 34) := ⟨⟨by decide +kernel, by decide +kernel⟩, List.mem_of_getElem? (i := 1116) (by decide +kernel), List.mem_of_getElem? (i := 1393) (by decide +kernel), List.mem_of_getElem? (i := 1394) (by decide +kernel)⟩
theorem lw_p58 : lw_okq (⟨"FaultListsModel", "shows", "(I)I"⟩, 34) := ⟨⟨by decide +kernel, by decide +kernel⟩, List.mem_of_getElem? (i := 1116) (by decide +kernel), List.mem_of_getElem? (i := 1397) (by decide +kernel), List.mem_of_getElem? (i := 1398) (by decide +kernel)⟩
theorem lw_p59 : lw_okq (⟨"FaultListsModel", "detectedSet", "()J"⟩, 34) := ⟨⟨by decide +kernel, by decide +kernel⟩, List.mem_of_getElem? (i := 1116) (by decide +kernel), List.mem_of_getElem? (i := 1401) (by decide +kernel), List.mem_of_getElem? (i := 1402) (by decide +kernel)⟩
theorem lw_p60 : lw_okq (⟨"FaultListsModel", "enters", "(J)V"⟩, 34) := ⟨⟨by decide +kernel, by decide +kernel⟩, List.mem_of_getElem? (i := 1116) (by decide +kernel), List.mem_of_getElem? (i := 1406) (by decide +kernel), List.mem_of_getElem? (i := 1407) (by decide +kernel)⟩
theorem lw_p61 : lw_okq (⟨"FaultListsModel", "droppedSet", "()J"⟩, 34) := ⟨⟨by decide +kernel, by decide +kernel⟩, List.mem_of_getElem? (i := 1116) (by decide +kernel), List.mem_of_getElem? (i := 1425) (by decide +kernel), List.mem_of_getElem? (i := 1426) (by decide +kernel)⟩
theorem lw_p62 : lw_okq (⟨"FaultListsModel", "otherAt", "(IZ)J"⟩, 34) := ⟨⟨by decide +kernel, by decide +kernel⟩, List.mem_of_getElem? (i := 1116) (by decide +kernel), List.mem_of_getElem? (i := 1433) (by decide +kernel), List.mem_of_getElem? (i := 1434) (by decide +kernel)⟩
theorem lw_p63 : lw_okq (⟨"FaultListsModel", "isFault", "(I)Z"⟩, 34) := ⟨⟨by decide +kernel, by decide +kernel⟩, List.mem_of_getElem? (i := 1116) (by decide +kernel), List.mem_of_getElem? (i := 1441) (by decide +kernel), List.mem_of_getElem? (i := 1442) (by decide +kernel)⟩
def lw_privs_4 : List (MethodName × Nat) := [(⟨"FaultListsModel", "ticks", "()I"⟩, 34), (⟨"FaultListsModel", "runsAll", "()V"⟩, 34), (⟨"FaultListsModel", "takesRun", "()V"⟩, 34), (⟨"FaultListsModel", "laysGood", "()V"⟩, 34), (⟨"FaultListsModel", "starts", "()V"⟩, 34), (⟨"FaultListsModel", "tick", "(II)V"⟩, 34), (⟨"FaultListsModel", "lays", "(II)V"⟩, 34), (⟨"FaultListsModel", "gated", "(II)I"⟩, 34), (⟨"FaultListsModel", "pinned", "(II)I"⟩, 34), (⟨"FaultListsModel", "runs", "(I)V"⟩, 34), (⟨"FaultListsModel", "shows", "(I)I"⟩, 34), (⟨"FaultListsModel", "detectedSet", "()J"⟩, 34), (⟨"FaultListsModel", "enters", "(J)V"⟩, 34), (⟨"FaultListsModel", "droppedSet", "()J"⟩, 34), (⟨"FaultListsModel", "otherAt", "(IZ)J"⟩, 34), (⟨"FaultListsModel", "isFault", "(I)Z"⟩, 34)]
theorem lw_r4 : ∀ q ∈ lw_privs_4, lw_okq q := List.forall_mem_cons.mpr ⟨lw_p48, List.forall_mem_cons.mpr ⟨lw_p49, List.forall_mem_cons.mpr ⟨lw_p50, List.forall_mem_cons.mpr ⟨lw_p51, List.forall_mem_cons.mpr ⟨lw_p52, List.forall_mem_cons.mpr ⟨lw_p53, List.forall_mem_cons.mpr ⟨lw_p54, List.forall_mem_cons.mpr ⟨lw_p55, List.forall_mem_cons.mpr ⟨lw_p56, List.forall_mem_cons.mpr ⟨lw_p57, List.forall_mem_cons.mpr ⟨lw_p58, List.forall_mem_cons.mpr ⟨lw_p59, List.forall_mem_cons.mpr ⟨lw_p60, List.forall_mem_cons.mpr ⟨lw_p61, List.forall_mem_cons.mpr ⟨lw_p62, List.forall_mem_cons.mpr ⟨lw_p63, fun _ h => absurd h List.not_mem_nil⟩⟩⟩⟩⟩⟩⟩⟩⟩⟩⟩⟩⟩⟩⟩⟩
theorem lw_p64 : lw_okq (⟨"FaultListsModel", "valueWith", "(II)I"⟩, 34) := ⟨⟨by decide +kernel, by decide +kernel⟩, List.mem_of_getElem? (i := 1116) (by decide +kernel), List.mem_of_getElem? (i := 1469) (by decide +kernel), List.mem_of_getElem? (i := 1470) (by decide +kernel)⟩
theorem lw_p65 : lw_okq (⟨"FaultListsModel", "laysClasses", "()V"⟩, 34) := ⟨⟨by decide +kernel, by decide +kernel⟩, List.mem_of_getElem? (i := 1116) (by decide +kernel), List.mem_of_getElem? (i := 1477) (by decide +kernel), List.mem_of_getElem? (i := 1478) (by decide +kernel)⟩
theorem lw_p66 : lw_okq (⟨"FaultListsModel", "joinsPin", "(II)V"⟩, 34) := ⟨⟨by decide +kernel, by decide +kernel⟩, List.mem_of_getElem? (i := 1116) (by decide +kernel), List.mem_of_getElem? (i := 1481) (by decide +kernel), List.mem_of_getElem? (i := 1482) (by decide +kernel)⟩
theorem lw_p67 : lw_okq (⟨"FaultListsModel", "joins", "(II)V"⟩, 34) := ⟨⟨by decide +kernel, by decide +kernel⟩, List.mem_of_getElem? (i := 1116) (by decide +kernel), List.mem_of_getElem? (i := 1485) (by decide +kernel), List.mem_of_getElem? (i := 1486) (by decide +kernel)⟩
theorem lw_p68 : lw_okq (⟨"FaultListsModel", "classAt", "(I)J"⟩, 34) := ⟨⟨by decide +kernel, by decide +kernel⟩, List.mem_of_getElem? (i := 1116) (by decide +kernel), List.mem_of_getElem? (i := 1491) (by decide +kernel), List.mem_of_getElem? (i := 1492) (by decide +kernel)⟩
theorem lw_p69 : lw_okq (⟨"FaultListsModel", "testsFor", "(I)I"⟩, 34) := ⟨⟨by decide +kernel, by decide +kernel⟩, List.mem_of_getElem? (i := 1116) (by decide +kernel), List.mem_of_getElem? (i := 1503) (by decide +kernel), List.mem_of_getElem? (i := 1504) (by decide +kernel)⟩
theorem lw_p70 : lw_okq (⟨"FaultListsModel", "heldCode", "()I"⟩, 34) := ⟨⟨by decide +kernel, by decide +kernel⟩, List.mem_of_getElem? (i := 1116) (by decide +kernel), List.mem_of_getElem? (i := 1507) (by decide +kernel), List.mem_of_getElem? (i := 1508) (by decide +kernel)⟩
theorem lw_p71 : lw_okq (⟨"FaultListsModel", "holdsAs", "(I)V"⟩, 34) := ⟨⟨by decide +kernel, by decide +kernel⟩, List.mem_of_getElem? (i := 1116) (by decide +kernel), List.mem_of_getElem? (i := 1511) (by decide +kernel), List.mem_of_getElem? (i := 1512) (by decide +kernel)⟩
theorem lw_p72 : lw_okq (⟨"FaultListsModel", "pattern", "(I)I"⟩, 34) := ⟨⟨by decide +kernel, by decide +kernel⟩, List.mem_of_getElem? (i := 1116) (by decide +kernel), List.mem_of_getElem? (i := 1515) (by decide +kernel), List.mem_of_getElem? (i := 1516) (by decide +kernel)⟩
theorem lw_p73 : lw_okq (⟨"FaultListsModel", "laysRow", "(II)V"⟩, 34) := ⟨⟨by decide +kernel, by decide +kernel⟩, List.mem_of_getElem? (i := 1116) (by decide +kernel), List.mem_of_getElem? (i := 1519) (by decide +kernel), List.mem_of_getElem? (i := 1520) (by decide +kernel)⟩
theorem lw_p74 : lw_okq (⟨"FaultListsModel", "isFound", "(I)Z"⟩, 34) := ⟨⟨by decide +kernel, by decide +kernel⟩, List.mem_of_getElem? (i := 1116) (by decide +kernel), List.mem_of_getElem? (i := 1523) (by decide +kernel), List.mem_of_getElem? (i := 1524) (by decide +kernel)⟩
theorem lw_p75 : lw_okq (⟨"FaultListsModel", "areEnough", "(IJ)Z"⟩, 34) := ⟨⟨by decide +kernel, by decide +kernel⟩, List.mem_of_getElem? (i := 1116) (by decide +kernel), List.mem_of_getElem? (i := 1535) (by decide +kernel), List.mem_of_getElem? (i := 1536) (by decide +kernel)⟩
theorem lw_p76 : lw_okq (⟨"FaultListsModel", "takesBut", "(I)V"⟩, 34) := ⟨⟨by decide +kernel, by decide +kernel⟩, List.mem_of_getElem? (i := 1116) (by decide +kernel), List.mem_of_getElem? (i := 1539) (by decide +kernel), List.mem_of_getElem? (i := 1540) (by decide +kernel)⟩
theorem lw_p77 : lw_okq (⟨"FaultListsModel", "allShown", "()J"⟩, 34) := ⟨⟨by decide +kernel, by decide +kernel⟩, List.mem_of_getElem? (i := 1116) (by decide +kernel), List.mem_of_getElem? (i := 1543) (by decide +kernel), List.mem_of_getElem? (i := 1544) (by decide +kernel)⟩
theorem lw_p78 : lw_okq (⟨"FaultListsModel", "firstShown", "(I)I"⟩, 34) := ⟨⟨by decide +kernel, by decide +kernel⟩, List.mem_of_getElem? (i := 1116) (by decide +kernel), List.mem_of_getElem? (i := 1547) (by decide +kernel), List.mem_of_getElem? (i := 1548) (by decide +kernel)⟩
theorem lw_p79 : lw_okq (⟨"FaultListsModel", "isAsSeen", "(II)Z"⟩, 34) := ⟨⟨by decide +kernel, by decide +kernel⟩, List.mem_of_getElem? (i := 1116) (by decide +kernel), List.mem_of_getElem? (i := 1559) (by decide +kernel), List.mem_of_getElem? (i := 1560) (by decide +kernel)⟩
def lw_privs_5 : List (MethodName × Nat) := [(⟨"FaultListsModel", "valueWith", "(II)I"⟩, 34), (⟨"FaultListsModel", "laysClasses", "()V"⟩, 34), (⟨"FaultListsModel", "joinsPin", "(II)V"⟩, 34), (⟨"FaultListsModel", "joins", "(II)V"⟩, 34), (⟨"FaultListsModel", "classAt", "(I)J"⟩, 34), (⟨"FaultListsModel", "testsFor", "(I)I"⟩, 34), (⟨"FaultListsModel", "heldCode", "()I"⟩, 34), (⟨"FaultListsModel", "holdsAs", "(I)V"⟩, 34), (⟨"FaultListsModel", "pattern", "(I)I"⟩, 34), (⟨"FaultListsModel", "laysRow", "(II)V"⟩, 34), (⟨"FaultListsModel", "isFound", "(I)Z"⟩, 34), (⟨"FaultListsModel", "areEnough", "(IJ)Z"⟩, 34), (⟨"FaultListsModel", "takesBut", "(I)V"⟩, 34), (⟨"FaultListsModel", "allShown", "()J"⟩, 34), (⟨"FaultListsModel", "firstShown", "(I)I"⟩, 34), (⟨"FaultListsModel", "isAsSeen", "(II)Z"⟩, 34)]
theorem lw_r5 : ∀ q ∈ lw_privs_5, lw_okq q := List.forall_mem_cons.mpr ⟨lw_p64, List.forall_mem_cons.mpr ⟨lw_p65, List.forall_mem_cons.mpr ⟨lw_p66, List.forall_mem_cons.mpr ⟨lw_p67, List.forall_mem_cons.mpr ⟨lw_p68, List.forall_mem_cons.mpr ⟨lw_p69, List.forall_mem_cons.mpr ⟨lw_p70, List.forall_mem_cons.mpr ⟨lw_p71, List.forall_mem_cons.mpr ⟨lw_p72, List.forall_mem_cons.mpr ⟨lw_p73, List.forall_mem_cons.mpr ⟨lw_p74, List.forall_mem_cons.mpr ⟨lw_p75, List.forall_mem_cons.mpr ⟨lw_p76, List.forall_mem_cons.mpr ⟨lw_p77, List.forall_mem_cons.mpr ⟨lw_p78, List.forall_mem_cons.mpr ⟨lw_p79, fun _ h => absurd h List.not_mem_nil⟩⟩⟩⟩⟩⟩⟩⟩⟩⟩⟩⟩⟩⟩⟩⟩
theorem lw_p80 : lw_okq (⟨"FaultListsModel", "alikeBy", "(I)I"⟩, 34) := ⟨⟨by decide +kernel, by decide +kernel⟩, List.mem_of_getElem? (i := 1116) (by decide +kernel), List.mem_of_getElem? (i := 1567) (by decide +kernel), List.mem_of_getElem? (i := 1568) (by decide +kernel)⟩
theorem lw_p81 : lw_okq (⟨"FaultListsModel", "draws", "(I)I"⟩, 34) := ⟨⟨by decide +kernel, by decide +kernel⟩, List.mem_of_getElem? (i := 1116) (by decide +kernel), List.mem_of_getElem? (i := 1579) (by decide +kernel), List.mem_of_getElem? (i := 1580) (by decide +kernel)⟩
theorem lw_p82 : lw_okq (⟨"FaultListsModel", "registers", "()I"⟩, 34) := ⟨⟨by decide +kernel, by decide +kernel⟩, List.mem_of_getElem? (i := 1116) (by decide +kernel), List.mem_of_getElem? (i := 1596) (by decide +kernel), List.mem_of_getElem? (i := 1597) (by decide +kernel)⟩
theorem lw_p83 : lw_okq (⟨"FaultListsModel", "detectedMany", "()I"⟩, 34) := ⟨⟨by decide +kernel, by decide +kernel⟩, List.mem_of_getElem? (i := 1116) (by decide +kernel), List.mem_of_getElem? (i := 1600) (by decide +kernel), List.mem_of_getElem? (i := 1601) (by decide +kernel)⟩
theorem lw_p84 : lw_okq (⟨"FaultListsModel", "listsLong", "()I"⟩, 34) := ⟨⟨by decide +kernel, by decide +kernel⟩, List.mem_of_getElem? (i := 1116) (by decide +kernel), List.mem_of_getElem? (i := 1604) (by decide +kernel), List.mem_of_getElem? (i := 1605) (by decide +kernel)⟩
def lw_privs_6 : List (MethodName × Nat) := [(⟨"FaultListsModel", "alikeBy", "(I)I"⟩, 34), (⟨"FaultListsModel", "draws", "(I)I"⟩, 34), (⟨"FaultListsModel", "registers", "()I"⟩, 34), (⟨"FaultListsModel", "detectedMany", "()I"⟩, 34), (⟨"FaultListsModel", "listsLong", "()I"⟩, 34)]
theorem lw_r6 : ∀ q ∈ lw_privs_6, lw_okq q := List.forall_mem_cons.mpr ⟨lw_p80, List.forall_mem_cons.mpr ⟨lw_p81, List.forall_mem_cons.mpr ⟨lw_p82, List.forall_mem_cons.mpr ⟨lw_p83, List.forall_mem_cons.mpr ⟨lw_p84, fun _ h => absurd h List.not_mem_nil⟩⟩⟩⟩⟩
def lw_privs : List (MethodName × Nat) := lw_privs_1 ++ (lw_privs_2 ++ (lw_privs_3 ++ (lw_privs_4 ++ (lw_privs_5 ++ (lw_privs_6)))))
def lw_tbl : List Cond := k2_sels lw_privs ++ tables_1
theorem lw_privs_ok : ∀ q ∈ lw_privs, lw_okq q := by
  show ∀ q ∈ lw_privs_1 ++ (lw_privs_2 ++ (lw_privs_3 ++ (lw_privs_4 ++ (lw_privs_5 ++ (lw_privs_6))))), lw_okq q
  exact List.forall_mem_append.mpr ⟨lw_r1, List.forall_mem_append.mpr ⟨lw_r2, List.forall_mem_append.mpr ⟨lw_r3, List.forall_mem_append.mpr ⟨lw_r4, List.forall_mem_append.mpr ⟨lw_r5, lw_r6⟩⟩⟩⟩⟩
-- ===== end of PART A; then your names; then what follows =====
end
section
/-! CLASSES: names, fields in the order of their slots, types (pasted from the printed names) -/
def RX0 : String := "FaultLists$Bench"
def TX0 : u_T := fun k => match k with
  | 0 => ("FaultLists$Bench", "good", "LFaultLists$Side;", true)
  | _ => ("FaultLists$Bench", "bad", "LFaultLists$Side;", true)
def tyX0 : Nat → FieldType := fun k => match k with
  | 0 => .object "FaultLists$Side"
  | _ => .object "FaultLists$Side"
abbrev wsX00 : List Cond := u_ws RX0 TX0 2
theorem nmX0 : ∀ a, a < 2 → ∀ b, b < 2 → a ≠ b → (TX0 a).2.1 ≠ (TX0 b).2.1 := by decide +kernel
theorem tyX0_ok : ∀ k, k < 2 → parseFieldDescriptor (TX0 k).2.2.1 = some (tyX0 k) := by decide +kernel
def RX1 : String := "FaultLists$Cells"
def TX1 : u_T := fun k => match k with
  | _ => ("FaultLists$Cells", "cells", "[J", true)
def tyX1 : Nat → FieldType := fun k => match k with
  | _ => .array .long
abbrev wsX10 : List Cond := u_ws RX1 TX1 1
theorem nmX1 : ∀ a, a < 1 → ∀ b, b < 1 → a ≠ b → (TX1 a).2.1 ≠ (TX1 b).2.1 := by decide +kernel
theorem tyX1_ok : ∀ k, k < 1 → parseFieldDescriptor (TX1 k).2.2.1 = some (tyX1 k) := by decide +kernel
def RX2 : String := "FaultLists$Kin"
def TX2 : u_T := fun k => match k with
  | _ => ("FaultLists$Kin", "of", "LFaultLists$Cells;", true)
def tyX2 : Nat → FieldType := fun k => match k with
  | _ => .object "FaultLists$Cells"
abbrev wsX20 : List Cond := u_ws RX2 TX2 1
theorem nmX2 : ∀ a, a < 1 → ∀ b, b < 1 → a ≠ b → (TX2 a).2.1 ≠ (TX2 b).2.1 := by decide +kernel
theorem tyX2_ok : ∀ k, k < 1 → parseFieldDescriptor (TX2 k).2.2.1 = some (tyX2 k) := by decide +kernel
def RX3 : String := "FaultLists$Moves"
def TX3 : u_T := fun k => match k with
  | 0 => ("FaultLists$Moves", "side", "LFaultLists$Side;", true)
  | 1 => ("FaultLists$Moves", "made", "LFaultLists$Cells;", true)
  | 2 => ("FaultLists$Moves", "ones", "LFaultLists$Cells;", true)
  | _ => ("FaultLists$Moves", "zeros", "LFaultLists$Cells;", true)
def tyX3 : Nat → FieldType := fun k => match k with
  | 0 => .object "FaultLists$Side"
  | 1 => .object "FaultLists$Cells"
  | 2 => .object "FaultLists$Cells"
  | _ => .object "FaultLists$Cells"
abbrev wsX30 : List Cond := u_ws RX3 TX3 4
theorem nmX3 : ∀ a, a < 4 → ∀ b, b < 4 → a ≠ b → (TX3 a).2.1 ≠ (TX3 b).2.1 := by decide +kernel
theorem tyX3_ok : ∀ k, k < 4 → parseFieldDescriptor (TX3 k).2.2.1 = some (tyX3 k) := by decide +kernel
def RX4 : String := "FaultLists$Net"
def TX4 : u_T := fun k => match k with
  | 0 => ("FaultLists$Net", "inputs", "I", false)
  | 1 => ("FaultLists$Net", "lines", "I", false)
  | 2 => ("FaultLists$Net", "pins", "I", false)
  | 3 => ("FaultLists$Net", "registers", "I", false)
  | 4 => ("FaultLists$Net", "outputs", "I", false)
  | 5 => ("FaultLists$Net", "sorts", "LFaultLists$Cells;", true)
  | 6 => ("FaultLists$Net", "widths", "LFaultLists$Cells;", true)
  | 7 => ("FaultLists$Net", "firsts", "LFaultLists$Cells;", true)
  | 8 => ("FaultLists$Net", "starts", "LFaultLists$Cells;", true)
  | 9 => ("FaultLists$Net", "reads", "LFaultLists$Cells;", true)
  | _ => ("FaultLists$Net", "outs", "LFaultLists$Cells;", true)
def tyX4 : Nat → FieldType := fun k => match k with
  | 0 => .int
  | 1 => .int
  | 2 => .int
  | 3 => .int
  | 4 => .int
  | 5 => .object "FaultLists$Cells"
  | 6 => .object "FaultLists$Cells"
  | 7 => .object "FaultLists$Cells"
  | 8 => .object "FaultLists$Cells"
  | 9 => .object "FaultLists$Cells"
  | _ => .object "FaultLists$Cells"
abbrev wsX40 : List Cond := u_ws RX4 TX4 11
theorem nmX4 : ∀ a, a < 11 → ∀ b, b < 11 → a ≠ b → (TX4 a).2.1 ≠ (TX4 b).2.1 := by decide +kernel
theorem tyX4_ok : ∀ k, k < 11 → parseFieldDescriptor (TX4 k).2.2.1 = some (tyX4 k) := by decide +kernel
def RX5 : String := "FaultLists$Pile"
def TX5 : u_T := fun k => match k with
  | 0 => ("FaultLists$Pile", "cells", "LFaultLists$Cells;", true)
  | 1 => ("FaultLists$Pile", "room", "I", true)
  | _ => ("FaultLists$Pile", "size", "I", false)
def tyX5 : Nat → FieldType := fun k => match k with
  | 0 => .object "FaultLists$Cells"
  | 1 => .int
  | _ => .int
abbrev wsX50 : List Cond := u_ws RX5 TX5 3
theorem nmX5 : ∀ a, a < 3 → ∀ b, b < 3 → a ≠ b → (TX5 a).2.1 ≠ (TX5 b).2.1 := by decide +kernel
theorem tyX5_ok : ∀ k, k < 3 → parseFieldDescriptor (TX5 k).2.2.1 = some (tyX5 k) := by decide +kernel
def RX6 : String := "FaultLists$Reader"
def TX6 : u_T := fun k => match k with
  | 0 => ("FaultLists$Reader", "net", "LFaultLists$Net;", true)
  | 1 => ("FaultLists$Reader", "kinds", "LFaultLists$Pile;", true)
  | 2 => ("FaultLists$Reader", "numbers", "LFaultLists$Pile;", true)
  | 3 => ("FaultLists$Reader", "place", "I", false)
  | _ => ("FaultLists$Reader", "refused", "Z", false)
def tyX6 : Nat → FieldType := fun k => match k with
  | 0 => .object "FaultLists$Net"
  | 1 => .object "FaultLists$Pile"
  | 2 => .object "FaultLists$Pile"
  | 3 => .int
  | _ => .boolean
abbrev wsX60 : List Cond := u_ws RX6 TX6 5
theorem nmX6 : ∀ a, a < 5 → ∀ b, b < 5 → a ≠ b → (TX6 a).2.1 ≠ (TX6 b).2.1 := by decide +kernel
theorem tyX6_ok : ∀ k, k < 5 → parseFieldDescriptor (TX6 k).2.2.1 = some (tyX6 k) := by decide +kernel
def RX7 : String := "FaultLists$Run"
def TX7 : u_T := fun k => match k with
  | 0 => ("FaultLists$Run", "net", "LFaultLists$Net;", true)
  | 1 => ("FaultLists$Run", "bench", "LFaultLists$Bench;", true)
  | 2 => ("FaultLists$Run", "patterns", "LFaultLists$Cells;", true)
  | 3 => ("FaultLists$Run", "ticks", "I", false)
  | 4 => ("FaultLists$Run", "dropping", "Z", false)
  | 5 => ("FaultLists$Run", "caught", "J", false)
  | 6 => ("FaultLists$Run", "dropped", "J", false)
  | 7 => ("FaultLists$Run", "suspects", "J", false)
  | 8 => ("FaultLists$Run", "caughtWhen", "LFaultLists$Cells;", true)
  | _ => ("FaultLists$Run", "caughtWhere", "LFaultLists$Cells;", true)
def tyX7 : Nat → FieldType := fun k => match k with
  | 0 => .object "FaultLists$Net"
  | 1 => .object "FaultLists$Bench"
  | 2 => .object "FaultLists$Cells"
  | 3 => .int
  | 4 => .boolean
  | 5 => .long
  | 6 => .long
  | 7 => .long
  | 8 => .object "FaultLists$Cells"
  | _ => .object "FaultLists$Cells"
abbrev wsX70 : List Cond := u_ws RX7 TX7 10
theorem nmX7 : ∀ a, a < 10 → ∀ b, b < 10 → a ≠ b → (TX7 a).2.1 ≠ (TX7 b).2.1 := by decide +kernel
theorem tyX7_ok : ∀ k, k < 10 → parseFieldDescriptor (TX7 k).2.2.1 = some (tyX7 k) := by decide +kernel
def RX8 : String := "FaultLists$Search"
def TX8 : u_T := fun k => match k with
  | 0 => ("FaultLists$Search", "found", "LFaultLists$Cells;", true)
  | 1 => ("FaultLists$Search", "good", "LFaultLists$Moves;", true)
  | 2 => ("FaultLists$Search", "bad", "LFaultLists$Moves;", true)
  | 3 => ("FaultLists$Search", "seen", "LFaultLists$Cells;", true)
  | 4 => ("FaultLists$Search", "pairs", "LFaultLists$Cells;", true)
  | 5 => ("FaultLists$Search", "depths", "LFaultLists$Cells;", true)
  | 6 => ("FaultLists$Search", "parents", "LFaultLists$Cells;", true)
  | 7 => ("FaultLists$Search", "numbers", "LFaultLists$Cells;", true)
  | _ => ("FaultLists$Search", "size", "I", false)
def tyX8 : Nat → FieldType := fun k => match k with
  | 0 => .object "FaultLists$Cells"
  | 1 => .object "FaultLists$Moves"
  | 2 => .object "FaultLists$Moves"
  | 3 => .object "FaultLists$Cells"
  | 4 => .object "FaultLists$Cells"
  | 5 => .object "FaultLists$Cells"
  | 6 => .object "FaultLists$Cells"
  | 7 => .object "FaultLists$Cells"
  | _ => .int
abbrev wsX80 : List Cond := u_ws RX8 TX8 9
theorem nmX8 : ∀ a, a < 9 → ∀ b, b < 9 → a ≠ b → (TX8 a).2.1 ≠ (TX8 b).2.1 := by decide +kernel
theorem tyX8_ok : ∀ k, k < 9 → parseFieldDescriptor (TX8 k).2.2.1 = some (tyX8 k) := by decide +kernel
def RX9 : String := "FaultLists$Side"
def TX9 : u_T := fun k => match k with
  | 0 => ("FaultLists$Side", "ones", "LFaultLists$Cells;", true)
  | 1 => ("FaultLists$Side", "zeros", "LFaultLists$Cells;", true)
  | 2 => ("FaultLists$Side", "heldOnes", "LFaultLists$Cells;", true)
  | _ => ("FaultLists$Side", "heldZeros", "LFaultLists$Cells;", true)
def tyX9 : Nat → FieldType := fun k => match k with
  | 0 => .object "FaultLists$Cells"
  | 1 => .object "FaultLists$Cells"
  | 2 => .object "FaultLists$Cells"
  | _ => .object "FaultLists$Cells"
abbrev wsX90 : List Cond := u_ws RX9 TX9 4
theorem nmX9 : ∀ a, a < 4 → ∀ b, b < 4 → a ≠ b → (TX9 a).2.1 ≠ (TX9 b).2.1 := by decide +kernel
theorem tyX9_ok : ∀ k, k < 4 → parseFieldDescriptor (TX9 k).2.2.1 = some (tyX9 k) := by decide +kernel
def RX10 : String := "FaultLists"
def TX10 : u_T := fun k => match k with
  | 0 => ("FaultLists", "text", "LFaultLists$Pile;", true)
  | 1 => ("FaultLists", "told", "LFaultLists$Pile;", true)
  | 2 => ("FaultLists", "reader", "LFaultLists$Reader;", true)
  | 3 => ("FaultLists", "now", "LFaultLists$Run;", true)
  | 4 => ("FaultLists", "kept0", "LFaultLists$Run;", true)
  | 5 => ("FaultLists", "kept1", "LFaultLists$Run;", true)
  | 6 => ("FaultLists", "isKept0", "Z", false)
  | 7 => ("FaultLists", "isKept1", "Z", false)
  | 8 => ("FaultLists", "trial", "LFaultLists$Run;", true)
  | 9 => ("FaultLists", "bench", "LFaultLists$Bench;", true)
  | 10 => ("FaultLists", "probe", "LFaultLists$Side;", true)
  | 11 => ("FaultLists", "kin", "LFaultLists$Kin;", true)
  | _ => ("FaultLists", "search", "LFaultLists$Search;", true)
def tyX10 : Nat → FieldType := fun k => match k with
  | 0 => .object "FaultLists$Pile"
  | 1 => .object "FaultLists$Pile"
  | 2 => .object "FaultLists$Reader"
  | 3 => .object "FaultLists$Run"
  | 4 => .object "FaultLists$Run"
  | 5 => .object "FaultLists$Run"
  | 6 => .boolean
  | 7 => .boolean
  | 8 => .object "FaultLists$Run"
  | 9 => .object "FaultLists$Bench"
  | 10 => .object "FaultLists$Side"
  | 11 => .object "FaultLists$Kin"
  | _ => .object "FaultLists$Search"
abbrev wsX100 : List Cond := u_ws RX10 TX10 13
theorem nmX10 : ∀ a, a < 13 → ∀ b, b < 13 → a ≠ b → (TX10 a).2.1 ≠ (TX10 b).2.1 := by decide +kernel
theorem tyX10_ok : ∀ k, k < 13 → parseFieldDescriptor (TX10 k).2.2.1 = some (tyX10 k) := by decide +kernel
def RX11 : String := "FaultListsModel"
def TX11 : u_T := fun k => match k with
  | 0 => ("FaultListsModel", "thrown", "I", false)
  | 1 => ("FaultListsModel", "told", "I", false)
  | 2 => ("FaultListsModel", "row", "[J", true)
  | 3 => ("FaultListsModel", "tape", "[I", true)
  | 4 => ("FaultListsModel", "taped", "I", false)
  | 5 => ("FaultListsModel", "at", "I", false)
  | 6 => ("FaultListsModel", "to", "I", false)
  | 7 => ("FaultListsModel", "mem", "[I", true)
  | 8 => ("FaultListsModel", "suspects", "[J", true)
  | 9 => ("FaultListsModel", "causeKind", "[I", true)
  | 10 => ("FaultListsModel", "causeNumber", "[I", true)
  | 11 => ("FaultListsModel", "causes", "I", false)
  | 12 => ("FaultListsModel", "readRegisters", "I", false)
  | 13 => ("FaultListsModel", "val", "[I", true)
  | 14 => ("FaultListsModel", "hold", "[I", true)
  | 15 => ("FaultListsModel", "list", "[I", true)
  | 16 => ("FaultListsModel", "listed", "I", false)
  | 17 => ("FaultListsModel", "good", "[I", true)
  | 18 => ("FaultListsModel", "goodHold", "[I", true)
  | 19 => ("FaultListsModel", "firstAt", "[I", true)
  | 20 => ("FaultListsModel", "shownAt", "[I", true)
  | 21 => ("FaultListsModel", "droppedAt", "[I", true)
  | 22 => ("FaultListsModel", "faultVal", "[I", true)
  | 23 => ("FaultListsModel", "faultHold", "[I", true)
  | 24 => ("FaultListsModel", "least", "[I", true)
  | 25 => ("FaultListsModel", "pairs", "[I", true)
  | 26 => ("FaultListsModel", "ahead", "[I", true)
  | 27 => ("FaultListsModel", "by", "[I", true)
  | 28 => ("FaultListsModel", "deep", "[I", true)
  | 29 => ("FaultListsModel", "found", "I", false)
  | 30 => ("FaultListsModel", "rowOf", "[I", true)
  | 31 => ("FaultListsModel", "outs", "[I", true)
  | 32 => ("FaultListsModel", "random", "I", false)
  | _ => ("FaultListsModel", "isKept", "[Z", true)
def tyX11 : Nat → FieldType := fun k => match k with
  | 0 => .int
  | 1 => .int
  | 2 => .array .long
  | 3 => .array .int
  | 4 => .int
  | 5 => .int
  | 6 => .int
  | 7 => .array .int
  | 8 => .array .long
  | 9 => .array .int
  | 10 => .array .int
  | 11 => .int
  | 12 => .int
  | 13 => .array .int
  | 14 => .array .int
  | 15 => .array .int
  | 16 => .int
  | 17 => .array .int
  | 18 => .array .int
  | 19 => .array .int
  | 20 => .array .int
  | 21 => .array .int
  | 22 => .array .int
  | 23 => .array .int
  | 24 => .array .int
  | 25 => .array .int
  | 26 => .array .int
  | 27 => .array .int
  | 28 => .array .int
  | 29 => .int
  | 30 => .array .int
  | 31 => .array .int
  | 32 => .int
  | _ => .array .boolean
abbrev wsX110 : List Cond := u_ws RX11 TX11 34
theorem nmX11 : ∀ a, a < 34 → ∀ b, b < 34 → a ≠ b → (TX11 a).2.1 ≠ (TX11 b).2.1 := by decide +kernel
theorem tyX11_ok : ∀ k, k < 34 → parseFieldDescriptor (TX11 k).2.2.1 = some (tyX11 k) := by decide +kernel
abbrev vwCl : List vw_C := [(RX0, TX0, 2), (RX1, TX1, 1), (RX2, TX2, 1), (RX3, TX3, 4), (RX4, TX4, 11), (RX5, TX5, 3), (RX6, TX6, 5), (RX7, TX7, 10), (RX8, TX8, 9), (RX9, TX9, 4), (RX10, TX10, 13), (RX11, TX11, 34)]
def fl_cl0 (i : Nat) : vw_C := vwCl.getD i ("", TX0, 0)
/-- the kinds of a class's fields: 0 int, 1 long, 2 a reference, 3 boolean -/
def fl_ft (i : Nat) : List Nat := ([[2, 2], [2], [2], [2, 2, 2, 2], [0, 0, 0, 0, 0, 2, 2, 2, 2, 2, 2], [2, 0, 0], [2, 2, 2, 0, 3], [2, 2, 2, 0, 3, 1, 1, 1, 2, 2], [2, 2, 2, 2, 2, 2, 2, 2, 0], [2, 2, 2, 2], [2, 2, 2, 2, 2, 2, 3, 3, 2, 2, 2, 2, 2], [0, 0, 2, 2, 0, 0, 0, 2, 2, 2, 2, 0, 0, 2, 2, 2, 0, 2, 2, 2, 2, 2, 2, 2, 2, 2, 2, 2, 2, 0, 2, 2, 0, 2]] : List (List Nat)).getD i []
end
section
/-! ===== BEGIN words of one list among another's, by their places ===== -/
theorem goodIn_r {big : List Cond} (ws : List Cond) (ps : List Nat) (hp : ws = ps.filterMap (fun i => big[i]?)) (h : ws.all goodWord = true) : GoodIn big ws := by
  intro w hw
  have h1 := List.all_eq_true.mp h w hw
  rw [hp] at hw
  obtain ⟨i, -, hi⟩ := List.mem_filterMap.mp hw
  have hm : w ∈ big := by first | exact List.mem_of_getElem? hi | exact List.getElem?_mem hi
  exact ⟨hm, good_of_word h1⟩
theorem goodIn_app {big a b : List Cond} (ha : GoodIn big a) (hb : GoodIn big b) : GoodIn big (a ++ b) := fun w h => (List.mem_append.mp h).elim (ha w) (hb w)
theorem goodIn_ca {big a b : List Cond} {c : Cond} (ha : GoodIn big (c :: a)) (hb : GoodIn big b) : GoodIn big (c :: (a ++ b)) := fun w h => (List.mem_cons.mp h).elim (fun e => ha w (List.mem_cons.mpr (Or.inl e))) (fun h => (List.mem_append.mp h).elim (fun h => ha w (List.mem_cons.mpr (Or.inr h))) (hb w))
theorem goodIn_sub {big ws : List Cond} (hm : ∀ w ∈ ws, w ∈ big) (h : ws.all goodWord = true) : GoodIn big ws := fun w hw => ⟨hm w hw, good_of_word (List.all_eq_true.mp h w hw)⟩
/-! ===== END ===== -/

/-! ===== BEGIN exceptions that leave a method, and their catching by the caller (launches without stack traces) ===== -/
section VXA
/-! The laws vx_back, vx_callV, vx_callS, vx_callSW, vx_throw0, vx_throwS follow proofs of the library, with one case more: JvmDerived/Free/Laws.lean (Back.of_free), Shelf42/LK1.lean (callV, callS), Shelf/KitTraced.lean (throwNew0V, throwNewS). -/
/-- where a method has thrown q: the class by its name, the cell, what was written, the world -/
def vx_T (XC : String → State → State → Prop) (st : State) (q : Addr) (t : State) (mc ms : Nat) (free : Addr → Prop) : Prop :=
  ∃ (E : String) (ce : Cell) (L : List Loc), XC E st t ∧ t.heap[q]? = some ce ∧ ce.vm = .none ∧ st.vm.findClass E = some ce.cls ∧ st.WarmedH t.vm ∧ st.sameButNew ({ t with vm := st.vm } : State) L mc ms ∧ ∀ z ∈ L, free z.base
def vx_Q (Qc : Array Value → State → Outcome → State → Prop) (XC : String → State → State → Prop) (mc ms : Nat) (free : Addr → Prop) : Array Value → State → Outcome → State → Prop := fun a st o t =>
  (Qc a st o t ∧ ∃ L, FrameEnd st o t L mc ms ∧ ∀ q ∈ L, free q.base) ∨ ∃ q, o = .threw q ∧ vx_T XC st q t mc ms free
/-- a callee that returns or throws -/
def vx_Met (l : Launch) (y : MethodName) (ws : List Cond) (rm : Room) (Pc : Array Value → State → Prop) (Qc : Array Value → State → Outcome → State → Prop) (XC : String → State → State → Prop) (mc ms : Nat) (free : Addr → Prop) : Prop :=
  MetFree l y (headSpec ws rm) Pc (fun _ _ _ _ _ => True) (vx_Q Qc XC mc ms free)
def vx_Post (XC : String → State → State → Prop) (mc ms : Nat) (free : Addr → Prop) : Pt → Array Value → Addr → Pt → Prop := fun A a q B =>
  ∃ (g : JFrame) (mk : MethodId) (t : State) (L : List Loc) (E : String) (ce : Cell), B.U.heap = t.heap ∧ B.U.vm = t.vm ∧ XC E (A.U.calling g mk a) t ∧ t.heap[q]? = some ce ∧ ce.vm = .none ∧ A.U.vm.findClass E = some ce.cls ∧ B.locs = A.locs ++ L ∧ (∀ z ∈ L, free z.base) ∧ B.cells = A.cells + mc ∧ B.slots = A.slots + ms
def vx_Back (l : Launch) (R : Room) (p : Program) (e : Env) (below : List Frame) (s : State) (sargs : Array Value) (y : MethodName) (len W9 : Nat)
    (Pre : Pt → Array Value → Prop) (Post : Pt → Array Value → Option Value → Pt → Prop) (PostX : Pt → Array Value → Addr → Pt → Prop) : Prop :=
  ∀ (m : MethodId) (meth : Method) (c : Code) (A : Pt) (g : JFrame) (ig : Instr) (mk : MethodId) (a : Array Value),
    Stand p l e R s m sargs below meth c A.U A.locs A.cells A.slots → g.method = m → g.locals.size = c.maxLocals → decode c.code g.pc = .ok (ig, len) →
    2 * g.monitorRoom + (g.stack.map fun v => v.category).sum ≤ W9 → A.U.methodNamed? y = some mk → Pre A a →
    (∃ (v : Option Value) (B : Pt), Stand p l e R s m sargs below meth c B.U B.locs B.cells B.slots ∧ Post A a v B ∧
      Steps p.tables e below (doInvoke e (A.U.setTop g) [] mk a).1 (B.U.setTop { g with pc := g.pc + len, stack := v.toList ++ g.stack })) ∨
    (∃ (q : Addr) (B : Pt), Stand p l e R s m sargs below meth c B.U B.locs B.cells B.slots ∧ PostX A a q B ∧
      Steps p.tables e below (doInvoke e (A.U.setTop g) [] mk a).1 ((B.U.setTop g).pushFrame (.throwing q)))
section Payer
variable {l : Launch} {R : Room} {p : Program} {e : Env} {below : List Frame} {s : State} {sargs : Array Value} {y : MethodName} {len W9 : Nat}
theorem vx_back {ws : List Cond} {rm : Room} {Pc : Array Value → State → Prop} {Qc : Array Value → State → Outcome → State → Prop} {XC : String → State → State → Prop} {mc ms : Nat} {free : Addr → Prop} {bytes : ByteArray} {maxL : Nat} {ret : Option FieldType}
    (hM : vx_Met l y ws rm Pc Qc XC mc ms free) (hblind : FrameBlind Pc) (hrc : rm.cells = mc) (hrs : rm.slots = ms)
    (hframes : rm.frames + 1 ≤ R.frames) (hlocals : W9 + (maxL + 11) + rm.locals ≤ R.locals)
    (hws : ∀ w ∈ ws, ∀ a' U, s.WarmedH U.vm → w.before a' U = true) (hcode : Cond.code y bytes maxL ret ∈ ws) (hinit : ∀ a' U, s.WarmedH U.vm → (Cond.initialized y.cls).before a' U = true) :
    vx_Back l R p e below s sargs y len W9 (PreOf R mc ms Pc) (PostOf Qc mc ms free) (vx_Post XC mc ms free) := by
  intro m meth c A g ig mk a X hg hsize hdg hW hn hp
  have h1 : (headSpec ws rm).pre.before a A.U = true := atoms_intro fun w hw => hws w hw _ _ X.warmed
  have h2 : (Cond.code y bytes maxL ret).before a A.U = true := hws _ hcode _ _ X.warmed
  have h3 : (Cond.initialized y.cls).before a A.U = true := hinit _ _ X.warmed
  have h4 : A.cells + (headSpec ws rm).room.cells ≤ R.cells := by rw [show (headSpec ws rm).room.cells = mc from hrc]; exact hp.1
  have h5 : A.slots + (headSpec ws rm).room.slots ≤ R.slots := by rw [show (headSpec ws rm).room.slots = ms from hrs]; exact hp.2.1
  have hPc : Pc a (A.U.calling g mk a) := hblind _ _ _ _ hp.2.2
  obtain ⟨U, Ls, c0, s0⟩ := A
  dsimp only [Pt.U, Pt.locs, Pt.cells, Pt.slots] at h1 h2 h3 h4 h5 X hn hPc ⊢
  obtain ⟨methY, cY, hmY, hcY, -, hlY, -, -, -, -⟩ := Cond.code_spec hn h2
  obtain ⟨kY, hkY, -⟩ := className_of_methodNamed hn
  have hinitY : kY.init = .initialized := Cond.initialized_spec (findClass_of_methodNamed hn) hkY h3
  have h : At U g.method c below := by rw [hg]; exact X.here
  have hlocals9 : W9 + (maxL + 11) + (headSpec ws rm).room.locals ≤ R.locals := hlocals
  have happ : (headSpec ws rm).appliesLoose y e.platform (U.calling g mk a) = true :=
    Spec.appliesLoose_calling (g := g) h hdg hn hkY hinitY
      (X.room_calling (g := g) (R' := (headSpec ws rm).room) hsize hmY hcY hframes (by rw [hlY]; omega) h4 h5) h1
  obtain ⟨mid, hmid⟩ := h.above
  have hfr : (U.setTop g).frames = (.java g :: mid) ++ below := by rw [State.frames_setTop' g h.top, hmid]; rfl
  obtain ⟨o, s₂, hsteps, -, hend, hq⟩ := Steps.callFree hM p X.admits X.cas X.clock (acts := []) hfr happ hPc trivial
  have hq' : vx_Q Qc XC mc ms free a (U.calling g mk a) o s₂ := hq
  rw [State.frames_setTop' g h.top] at hend
  obtain ⟨g₀, hg0⟩ := Option.isSome_iff_exists.mp h.top
  obtain ⟨r, hr⟩ := State.topJava?_eq_some.mp hg0
  have hr' : (({ U with heap := s₂.heap, slotsUsed := s₂.slotsUsed } : State).setVm s₂.vm).frames = .java g₀ :: r := hr
  rcases hq' with ⟨hqc, L, hfe, hL⟩ | ⟨q, rfl, E, ce, L, hx, hce, hcv, hcl, hW₂, hsm, hL⟩
  · obtain ⟨⟨v, rfl⟩, hW₂, e2, q2, q3, q4, q5, q6⟩ := id hfe
    have e3 : s₂ = ({ (U.calling g mk a).setFrames s₂.frames with heap := s₂.heap, slotsUsed := s₂.slotsUsed } : State).setVm s₂.vm := by
      have : s₂ = ({ s₂ with vm := (U.calling g mk a).vm } : State).setVm s₂.vm := rfl
      rw [e2] at this
      exact this
    obtain ⟨c₂, i₂, len₂, hc₂, hd₂, hf₂⟩ := hend
    have hW' : U.WarmedH s₂.vm := hW₂
    have hcc : c₂ = c := by
      have h1 : s₂.code? g.method = U.code? g.method := by
        rw [State.code?_eq, State.code?_eq, hW'.alike.method?]
      exact Option.some.inj (hc₂.symm.trans (h1.trans h.code))
    subst hcc
    have hlen : len₂ = len := by rw [hdg] at hd₂; cases hd₂; rfl
    subst hlen
    have hs₂ : s₂ = (({ U with heap := s₂.heap, slotsUsed := s₂.slotsUsed } : State).setVm s₂.vm).setTop { g with pc := g.pc + len₂, stack := v.toList ++ g.stack } := by
      refine e3.trans ?_
      rw [hf₂, State.calling_eq h.top, State.setFrames_setFrames, State.setTop_of_frames _ hr', hr]
      rfl
    have hsame : U.sameButNew ({ U with heap := s₂.heap, slotsUsed := s₂.slotsUsed } : State) L mc ms := by
      refine ⟨?_, q2, q3, q4, q5, q6⟩
      obtain ⟨t, ht, -⟩ := State.frames_cons hr
      show ({ U with heap := s₂.heap, slotsUsed := s₂.slotsUsed } : State) = { U.setFrames U.frames with heap := s₂.heap, slotsUsed := s₂.slotsUsed }
      rw [State.setFrames_self ht]
    subst hg
    refine Or.inl ⟨v, ⟨(({ U with heap := s₂.heap, slotsUsed := s₂.slotsUsed } : State).setVm s₂.vm), Ls ++ L, c0 + mc, s0 + ms⟩,
      ⟨X.admits, X.cas, X.clock, X.frames, X.room, X.hears, X.method, X.code, (X.here.setHeapUsed s₂.heap s₂.slotsUsed).setVm hW'.alike, X.tail, State.WarmedH.trans X.warmed hW', X.limits, X.bytes, X.same.trans (hsame.setVm s.vm)⟩,
      ⟨g, mk, s₂, L, rfl, rfl, hqc, rfl, hL, rfl, rfl⟩, ?_⟩
    show Steps p.tables e below _ ((({ U with heap := s₂.heap, slotsUsed := s₂.slotsUsed } : State).setVm s₂.vm).setTop { g with pc := g.pc + len₂, stack := v.toList ++ g.stack })
    rw [← hs₂]
    exact hsteps
  · obtain ⟨e2, q2, q3, q4, q5, q6⟩ := id hsm
    have e3 : s₂ = ({ (U.calling g mk a).setFrames s₂.frames with heap := s₂.heap, slotsUsed := s₂.slotsUsed } : State).setVm s₂.vm := by
      have : s₂ = ({ s₂ with vm := (U.calling g mk a).vm } : State).setVm s₂.vm := rfl
      rw [e2] at this
      exact this
    have hf₂ : s₂.frames = .throwing q :: .java g :: U.frames.tail := hend
    have hW' : U.WarmedH s₂.vm := hW₂
    have hs₂ : s₂ = ((({ U with heap := s₂.heap, slotsUsed := s₂.slotsUsed } : State).setVm s₂.vm).setTop g).pushFrame (.throwing q) := by
      refine e3.trans ?_
      rw [hf₂, State.calling_eq h.top, State.setFrames_setFrames, State.pushFrame, State.frames_setTop _ hr', State.setTop_of_frames _ hr', State.setFrames_setFrames, hr]
      rfl
    have hsame : U.sameButNew ({ U with heap := s₂.heap, slotsUsed := s₂.slotsUsed } : State) L mc ms := by
      refine ⟨?_, q2, q3, q4, q5, q6⟩
      obtain ⟨t, ht, -⟩ := State.frames_cons hr
      show ({ U with heap := s₂.heap, slotsUsed := s₂.slotsUsed } : State) = { U.setFrames U.frames with heap := s₂.heap, slotsUsed := s₂.slotsUsed }
      rw [State.setFrames_self ht]
    subst hg
    refine Or.inr ⟨q, ⟨(({ U with heap := s₂.heap, slotsUsed := s₂.slotsUsed } : State).setVm s₂.vm), Ls ++ L, c0 + mc, s0 + ms⟩,
      ⟨X.admits, X.cas, X.clock, X.frames, X.room, X.hears, X.method, X.code, (X.here.setHeapUsed s₂.heap s₂.slotsUsed).setVm hW'.alike, X.tail, State.WarmedH.trans X.warmed hW', X.limits, X.bytes, X.same.trans (hsame.setVm s.vm)⟩,
      ⟨g, mk, s₂, L, E, ce, rfl, rfl, hx, hce, hcv, hcl, rfl, hL, rfl, rfl⟩, ?_⟩
    show Steps p.tables e below _ (((({ U with heap := s₂.heap, slotsUsed := s₂.slotsUsed } : State).setVm s₂.vm).setTop g).pushFrame (.throwing q))
    rw [← hs₂]
    exact hsteps
end Payer
section Calls
variable {p : Program} {l : Launch} {e : Env} {R : Room} {s : State} {m : MethodId} {args : Array Value} {below : List Frame} {meth : Method} {c : Code} {T : State} {locs : List Loc} {cells slots : Nat}
theorem vx_callV (X : Stand p l e R s m args below meth c T locs cells slots) (hexec : p.tables.exec = Jvm.exec) {own C : String} {index : Nat} {y : MethodName} {bytes : ByteArray} {maxL : Nat} {ret : Option FieldType}
    (hown : s.vm.findClass own = some m.cls) (hlink : (Cond.methodLink own index y).before args s = true) (hinst : (Cond.instanceMethod y).before args s = true) (hsel : (Cond.selects C y y).before args s = true)
    (hcode : (Cond.code y bytes maxL ret).before args s = true) (hy : y.cls ≠ "java/lang/invoke/MethodHandle" ∧ y.cls ≠ "java/lang/invoke/VarHandle")
    {W9 : Nat} {Pre : Pt → Array Value → Prop} {Post : Pt → Array Value → Option Value → Pt → Prop} {PostX : Pt → Array Value → Addr → Pt → Prop} (hK : vx_Back l R p e below s args y 3 W9 Pre Post PostX)
    {b : Addr} {cellB : Cell} (hcell : T.heap[b]? = some cellB) (hobj : cellB.vm.isStatics = false) (hcls : s.vm.findClass C = some cellB.cls)
    {g : JFrame} (hg : g.method = m) (hsize : g.locals.size = c.maxLocals) {argsL rest : List Value} (hlen : ∀ sig, parseMethodDescriptor y.desc = some sig → argsL.length = sig.parameters.length)
    (hstack : g.stack = argsL.reverse ++ .ref b :: rest) (hW : 2 * g.monitorRoom + (rest.map fun v => v.category).sum ≤ W9) (hdg : decode c.code g.pc = .ok (.invokevirtual index, 3))
    (hpre : ∀ vm₁, s.WarmedH vm₁ → Pre ⟨T.setVm vm₁, locs, cells, slots⟩ (Value.ref b :: argsL).toArray) :
    (∃ (v : Option Value) (vm₁ : Vm) (B : Pt), s.WarmedH vm₁ ∧ Stand p l e R s m args below meth c B.U B.locs B.cells B.slots ∧ Post ⟨T.setVm vm₁, locs, cells, slots⟩ (Value.ref b :: argsL).toArray v B ∧
      ∀ target, Steps p.tables e below (B.U.setTop { g with pc := g.pc + 3, stack := v.toList ++ rest }) target → Steps p.tables e below (T.setTop g) target) ∨
    (∃ (q : Addr) (vm₁ : Vm) (B : Pt), s.WarmedH vm₁ ∧ Stand p l e R s m args below meth c B.U B.locs B.cells B.slots ∧ PostX ⟨T.setVm vm₁, locs, cells, slots⟩ (Value.ref b :: argsL).toArray q B ∧
      Steps p.tables e below (T.setTop g) ((B.U.setTop { g with stack := rest }).pushFrame (.throwing q))) := by
  obtain ⟨mk, methM, hnamed, hmethM, hstM, habM⟩ := Cond.instanceMethod_spec hinst
  obtain ⟨methM', cM, hmethM', -, -, -, -, -, -, hsigM⟩ := Cond.code_spec hnamed hcode
  cases hmethM.symm.trans hmethM'
  obtain ⟨c2, r2, m2, q1, q2, q3, q4, kP, hkP, hkPi⟩ := Cond.selects_spec hsel
  cases hcls.symm.trans q1
  cases (State.methodFound?_of_named hnamed hy).symm.trans q2
  cases hnamed.symm.trans q3
  have hselP : selectMethod e.platform s.vm cellB.cls mk = .method mk := by rw [Launch.admits_selectMethod X.admits]; exact q4
  obtain ⟨vm₁, X₁, hstep₁⟩ := X.invokevirtual hexec hown hlink hnamed hmethM hstM hkP hkPi hy (a := b) (cell := cellB) hcell
    (fun z h => by rw [h] at hobj; cases hobj) hselP hmethM habM hkP hkPi (g := g) hg (argsL := argsL) (rest := rest) (hlen _ hsigM) hstack hdg
  rcases hK m meth c ⟨T.setVm vm₁, locs, cells, slots⟩ { g with stack := rest } (.invokevirtual index) mk (Value.ref b :: argsL).toArray X₁ hg hsize hdg hW (X₁.named hnamed) (hpre vm₁ X₁.warmed) with ⟨v, B, X', hpost, hsteps⟩ | ⟨q, B, X', hpost, hsteps⟩
  · exact Or.inl ⟨v, vm₁, B, X₁.warmed, X', hpost, fun target h => hstep₁ _ fun acts => by rw [doInvoke_state]; exact hsteps.trans h⟩
  · exact Or.inr ⟨q, vm₁, B, X₁.warmed, X', hpost, hstep₁ _ fun acts => by rw [doInvoke_state]; exact hsteps⟩
theorem vx_callS (X : Stand p l e R s m args below meth c T locs cells slots) (hexec : p.tables.exec = Jvm.exec) {own : String} {index : Nat} {y : MethodName} {bytes : ByteArray} {maxL : Nat} {ret : Option FieldType}
    (hown : s.vm.findClass own = some m.cls) (hlink : (Cond.methodLink own index y).before args s = true) (hstat : (Cond.static y).before args s = true) (hinit : (Cond.initialized y.cls).before args s = true)
    (hcode : (Cond.code y bytes maxL ret).before args s = true) (hy : y.cls ≠ "java/lang/invoke/MethodHandle" ∧ y.cls ≠ "java/lang/invoke/VarHandle")
    {W9 : Nat} {Pre : Pt → Array Value → Prop} {Post : Pt → Array Value → Option Value → Pt → Prop} {PostX : Pt → Array Value → Addr → Pt → Prop} (hK : vx_Back l R p e below s args y 3 W9 Pre Post PostX)
    {g : JFrame} (hg : g.method = m) (hsize : g.locals.size = c.maxLocals) {argsL rest : List Value} (hlen : ∀ sig, parseMethodDescriptor y.desc = some sig → argsL.length = sig.parameters.length)
    (hstack : g.stack = argsL.reverse ++ rest) (hW : 2 * g.monitorRoom + (rest.map fun v => v.category).sum ≤ W9) (hdg : decode c.code g.pc = .ok (.invokestatic index, 3))
    (hpre : ∀ vm₁, s.WarmedH vm₁ → Pre ⟨T.setVm vm₁, locs, cells, slots⟩ argsL.toArray) :
    (∃ (v : Option Value) (vm₁ : Vm) (B : Pt), s.WarmedH vm₁ ∧ Stand p l e R s m args below meth c B.U B.locs B.cells B.slots ∧ Post ⟨T.setVm vm₁, locs, cells, slots⟩ argsL.toArray v B ∧
      ∀ target, Steps p.tables e below (B.U.setTop { g with pc := g.pc + 3, stack := v.toList ++ rest }) target → Steps p.tables e below (T.setTop g) target) ∨
    (∃ (q : Addr) (vm₁ : Vm) (B : Pt), s.WarmedH vm₁ ∧ Stand p l e R s m args below meth c B.U B.locs B.cells B.slots ∧ PostX ⟨T.setVm vm₁, locs, cells, slots⟩ argsL.toArray q B ∧
      Steps p.tables e below (T.setTop g) ((B.U.setTop { g with stack := rest }).pushFrame (.throwing q))) := by
  obtain ⟨mk, hnamed⟩ := Cond.code_named hcode
  obtain ⟨methM, cM, hmethM, -, -, -, -, -, -, hsigM⟩ := Cond.code_spec hnamed hcode
  have hstatic : methM.isStatic = true := Cond.static_spec hnamed hmethM hstat
  obtain ⟨kP, hkP, -⟩ := className_of_methodNamed hnamed
  have hinitP : kP.init = .initialized := Cond.initialized_spec (findClass_of_methodNamed hnamed) hkP hinit
  obtain ⟨vm₁, X₁, hstep₁⟩ := X.invokestatic hexec hown hlink hnamed hmethM hstatic hkP hinitP hy (g := g) hg (argsL := argsL) (rest := rest) (hlen _ hsigM) hstack hdg
  rcases hK m meth c ⟨T.setVm vm₁, locs, cells, slots⟩ { g with stack := rest } (.invokestatic index) mk argsL.toArray X₁ hg hsize hdg hW (X₁.named hnamed) (hpre vm₁ X₁.warmed) with ⟨v, B, X', hpost, hsteps⟩ | ⟨q, B, X', hpost, hsteps⟩
  · exact Or.inl ⟨v, vm₁, B, X₁.warmed, X', hpost, fun target h => hstep₁ _ fun acts => by rw [doInvoke_state]; exact hsteps.trans h⟩
  · exact Or.inr ⟨q, vm₁, B, X₁.warmed, X', hpost, hstep₁ _ fun acts => by rw [doInvoke_state]; exact hsteps⟩
end Calls
theorem vx_cls {s : State} {T : State} {vm₁ : Vm} {E : String} {k : ClassId} (hW : s.WarmedH vm₁) (h : (T.setVm vm₁).vm.findClass E = some k) : s.vm.findClass E = some k := by
  have h1 : vm₁.findClass E = some k := h
  rw [hW.alike.findClass] at h1
  exact h1
/-- the method's frame g, with q thrown over it -/
def vx_W (p : Program) (l : Launch) (e : Env) (R : Room) (s : State) (m : MethodId) (args : Array Value) (below : List Frame) (meth : Method) (c : Code) (H : Heap) (locs : List Loc) (cells slots : Nat) (Q : State → Prop) (g : JFrame) (q : Addr) : Prop :=
  ∀ T : State, T.heap = H → Stand p l e R s m args below meth c T locs cells slots → ∃ t, Steps p.tables e below ((T.setTop g).pushFrame (.throwing q)) t ∧ Q t
def vx_Run (p : Program) (l : Launch) (e : Env) (R : Room) (s : State) (m : MethodId) (args : Array Value) (below : List Frame) (meth : Method) (c : Code) (H : Heap) (locs : List Loc) (cells slots mc ms : Nat) (g : JFrame) (rest : List Value) (Qa : State → Outcome → State → Prop) (XC : String → State → State → Prop) (free : Addr → Prop) : Prop :=
  ∀ T : State, T.heap = H → Stand p l e R s m args below meth c T locs cells slots →
    (∃ (v : Option Value) (st₀ t T' : State) (L : List Loc), st₀.heap = H ∧ Stand p l e R s m args below meth c T' (locs ++ L) (cells + mc) (slots + ms) ∧ (∀ q ∈ L, free q.base) ∧ T'.heap = t.heap ∧ T'.vm = t.vm ∧ Qa st₀ (.returned v) t ∧
      Goes p e below T g T' { g with pc := g.pc + 3, stack := v.toList ++ rest }) ∨
    (∃ (q : Addr) (st₀ t T' : State) (L : List Loc) (E : String) (ce : Cell), st₀.heap = H ∧ Stand p l e R s m args below meth c T' (locs ++ L) (cells + mc) (slots + ms) ∧ (∀ z ∈ L, free z.base) ∧ T'.heap = t.heap ∧ T'.vm = t.vm ∧ XC E st₀ t ∧ t.heap[q]? = some ce ∧ ce.vm = .none ∧ s.vm.findClass E = some ce.cls ∧
      Steps p.tables e below (T.setTop g) ((T'.setTop { g with stack := rest }).pushFrame (.throwing q)))
def vx_X {S : Type} (px : S → Prop) (B : String → S → State → Prop) (A : Nat → Prop) : String → State → State → Prop := fun E st t => ∃ u : S, px u ∧ B E u t ∧ va_F A st t
section Runs
variable {p : Program} {l : Launch} {e : Env} {R : Room} {s : State} {m : MethodId} {args : Array Value} {below : List Frame} {meth : Method} {c : Code} {H : Heap} {locs : List Loc} {cells slots : Nat}
variable {y : MethodName} {bytes cc : ByteArray} {maxL nL mc ms n index : Nat} {ret : Option FieldType} {ws : List Cond} {rm : Room} {Pc : Array Value → State → Prop} {Qc : Array Value → State → Outcome → State → Prop} {XC : String → State → State → Prop} {free : Addr → Prop} {Ts : List Cond} {own C : String} {b : Addr} {As rest : List Value} {g : JFrame}
theorem vx_callBack (cb : CallB R s args own index y bytes maxL ret ws rm mc ms n) (hM : vx_Met l y ws rm Pc Qc XC mc ms free) (hbl : FrameBlind Pc) : vx_Back l R p e below s args y 3 8 (PreOf R mc ms Pc) (PostOf Qc mc ms free) (vx_Post XC mc ms free) := by
  obtain ⟨hrc, hrs, hfr, hlo, hws, hcw, -, hini, -⟩ := cb
  exact vx_back (bytes := bytes) (maxL := maxL) (ret := ret) hM hbl hrc hrs hfr hlo hws hcw (fun a' U hW => word_at hW (Or.inl (by first | rfl | simp [Cond.onTables, Cond.keeps, Cond.steady])) hini)
theorem vx_runV (S : CallFix p m c cc nL s args Ts own) (hM : vx_Met l y ws rm Pc Qc XC mc ms free) (cw : CallW R s args own C index y bytes maxL ret ws rm mc ms n) (hp : PreV s H C b Pc As)
    (hg : g.method = m) (hn : As.length = n) (hsize : g.locals.size = nL) (hstack : g.stack = As.reverse ++ .ref b :: rest) (hW : 2 * g.monitorRoom + (rest.map fun v => v.category).sum ≤ 8) (hdg : decode cc g.pc = .ok (.invokevirtual index, 3)) (hf : cells + mc ≤ R.cells ∧ slots + ms ≤ R.slots) :
    vx_Run p l e R s m args below meth c H locs cells slots mc ms g rest (Qc (Value.ref b :: As).toArray) XC free := by
  have hK : vx_Back l R p e below s args y 3 8 (PreOf R mc ms Pc) (PostOf Qc mc ms free) (vx_Post XC mc ms free) := vx_callBack cw.1 hM hp.1
  obtain ⟨⟨-, -, -, -, -, -, hcode, -, hy, hlen, hl⟩, hin, hse⟩ := cw
  obtain ⟨hx, hb, hml, ho, -⟩ := S
  obtain ⟨-, ⟨cellB, hcB, hoB, hclB⟩, hPc⟩ := hp
  intro T hT X
  rcases vx_callV X hx (C := C) (bytes := bytes) (maxL := maxL) (ret := ret) ho hl hin hse hcode hy hK (by rw [hT]; exact hcB) hoB hclB hg (hsize.trans hml.symm) (argsL := As) (rest := rest) (fun sig h => hn.trans (hlen sig h)) hstack hW (by rw [hb]; exact hdg)
    (fun vm₁ hW₁ => ⟨hf.1, hf.2, hPc (T.setVm vm₁) hT hW₁⟩) with ⟨v, vm₁, ⟨U', l2, c2, s2⟩, hW₁, X', ⟨g', mk, t, L, e1, e2, hq, h1, hL, h2, h3⟩, st⟩ | ⟨q, vm₁, ⟨U', l2, c2, s2⟩, hW₁, X', ⟨g', mk, t, L, E, ce, e1, e2, hq, hce, hcv, hcl, h1, hL, h2, h3⟩, st⟩
  · dsimp only [Pt.U, Pt.locs, Pt.cells, Pt.slots] at X' e1 e2 h1 h2 h3 st
    subst h1; subst h2; subst h3
    exact Or.inl ⟨v, (T.setVm vm₁).calling g' mk (Value.ref b :: As).toArray, t, U', L, hT, X', hL, e1, e2, hq, st⟩
  · dsimp only [Pt.U, Pt.locs, Pt.cells, Pt.slots] at X' e1 e2 h1 h2 h3 st hcl
    subst h1; subst h2; subst h3
    exact Or.inr ⟨q, (T.setVm vm₁).calling g' mk (Value.ref b :: As).toArray, t, U', L, E, ce, hT, X', hL, e1, e2, hq, hce, hcv, vx_cls hW₁ hcl, st⟩
theorem vx_runS (S : CallFix p m c cc nL s args Ts own) (hM : vx_Met l y ws rm Pc Qc XC mc ms free) (cw : CallB R s args own index y bytes maxL ret ws rm mc ms n ∧ (Cond.static y).before args s = true) (hp : PreS s H Pc As)
    (hg : g.method = m) (hn : As.length = n) (hsize : g.locals.size = nL) (hstack : g.stack = As.reverse ++ rest) (hW : 2 * g.monitorRoom + (rest.map fun v => v.category).sum ≤ 8) (hdg : decode cc g.pc = .ok (.invokestatic index, 3)) (hf : cells + mc ≤ R.cells ∧ slots + ms ≤ R.slots) :
    vx_Run p l e R s m args below meth c H locs cells slots mc ms g rest (Qc As.toArray) XC free := by
  have hK : vx_Back l R p e below s args y 3 8 (PreOf R mc ms Pc) (PostOf Qc mc ms free) (vx_Post XC mc ms free) := vx_callBack cw.1 hM hp.1
  obtain ⟨⟨-, -, -, -, -, -, hcode, hini, hy, hlen, hl⟩, hstt⟩ := cw
  obtain ⟨hx, hb, hml, ho, -⟩ := S
  intro T hT X
  rcases vx_callS X hx (bytes := bytes) (maxL := maxL) (ret := ret) ho hl hstt hini hcode hy hK hg (hsize.trans hml.symm) (argsL := As) (rest := rest) (fun sig h => hn.trans (hlen sig h)) hstack hW (by rw [hb]; exact hdg)
    (fun vm₁ hW₁ => ⟨hf.1, hf.2, hp.2 (T.setVm vm₁) hT hW₁⟩) with ⟨v, vm₁, ⟨U', l2, c2, s2⟩, hW₁, X', ⟨g', mk, t, L, e1, e2, hq, h1, hL, h2, h3⟩, st⟩ | ⟨q, vm₁, ⟨U', l2, c2, s2⟩, hW₁, X', ⟨g', mk, t, L, E, ce, e1, e2, hq, hce, hcv, hcl, h1, hL, h2, h3⟩, st⟩
  · dsimp only [Pt.U, Pt.locs, Pt.cells, Pt.slots] at X' e1 e2 h1 h2 h3 st
    subst h1; subst h2; subst h3
    exact Or.inl ⟨v, (T.setVm vm₁).calling g' mk As.toArray, t, U', L, hT, X', hL, e1, e2, hq, st⟩
  · dsimp only [Pt.U, Pt.locs, Pt.cells, Pt.slots] at X' e1 e2 h1 h2 h3 st hcl
    subst h1; subst h2; subst h3
    exact Or.inr ⟨q, (T.setVm vm₁).calling g' mk As.toArray, t, U', L, E, ce, hT, X', hL, e1, e2, hq, hce, hcv, vx_cls hW₁ hcl, st⟩
end Runs
section Rows
variable {p : Program} {l : Launch} {e : Env} {R : Room} {s : State} {m : MethodId} {args : Array Value} {below : List Frame} {meth : Method} {c : Code} {H : Heap} {locs : List Loc} {cells slots : Nat} {Q : State → Prop}
variable {mc ms : Nat} {free : Addr → Prop} {A0 A1 : Nat → Prop} {H0 : Heap} {a : Array Value} {pc : Nat} {ls : Array Slot} {st0 rest : List Value}
theorem vx_keep {st₀ t T' : State} {L : List Loc} (h0 : st₀.heap = H) (e1 : T'.heap = t.heap) (hS : va_S A0 H0 H locs) (hA : ∀ q, q < H.size → A1 q → A0 q) (hf : ∀ q, free q → A0 q) (hL : ∀ q ∈ L, free q.base) (hF : va_F A1 st₀ t) :
    H.size ≤ T'.heap.size ∧ (∀ q : Nat, q < H.size → ¬ A1 q → T'.heap[q]? = H[q]?) ∧ va_S A0 H0 T'.heap (locs ++ L) := by
  obtain ⟨hz, hk⟩ := hF
  rw [h0] at hz hk
  exact ⟨by rw [e1]; exact hz, fun q h1 h2 => by rw [e1]; exact hk q h1 h2,
    ⟨Nat.le_trans hS.1 (by rw [e1]; exact hz), fun q h1 h2 => by rw [e1, hk q (Nat.lt_of_lt_of_le h1 hS.1) (fun z => h2 (hA q (Nat.lt_of_lt_of_le h1 hS.1) z))]; exact hS.2.1 q h1 h2, fun q hq => by
      rcases List.mem_append.mp hq with h | h
      · exact hS.2.2 q h
      · exact hf _ (hL q h)⟩⟩
theorem vx_calli {S SX : Type} {post : Int32 → S → Prop} {px : SX → Prop} {B : S → State → Prop} {BX : String → SX → State → Prop} {AX : Nat → Prop} (hr : vx_Run p l e R s m args below meth c H locs cells slots mc ms (F0 m pc ls st0) rest (va_Qi post B A1 a) (vx_X px BX AX) free) (hS : va_S A0 H0 H locs) (hA : ∀ q, q < H.size → A1 q → A0 q) (hf : ∀ q, free q → A0 q) (hAX : ∀ q, q < H.size → AX q → A0 q)
    (kx : ∀ (E : String) (ce : Cell) (q9 : Addr) (u : SX) (t : State) (H1 : Heap) (locs1 : List Loc), t.heap = H1 → s.vm.Alike t.vm → px u → BX E u t → H.size ≤ H1.size → (∀ q : Nat, q < H.size → ¬ AX q → H1[q]? = H[q]?) → va_S A0 H0 H1 locs1 → H1[q9]? = some ce → ce.vm = .none → s.vm.findClass E = some ce.cls → vx_W p l e R s m args below meth c H1 locs1 (cells + mc) (slots + ms) Q (F0 m pc ls rest) q9)
    (kk : ∀ (r : Int32) (u : S) (t : State) (H1 : Heap) (locs1 : List Loc), t.heap = H1 → s.vm.Alike t.vm → post r u → B u t → H.size ≤ H1.size → (∀ q : Nat, q < H.size → ¬ A1 q → H1[q]? = H[q]?) → va_S A0 H0 H1 locs1 → W p l e R s m args below meth c H1 locs1 (cells + mc) (slots + ms) Q (F0 m (pc + 3) ls (.int r :: rest))) : W p l e R s m args below meth c H locs cells slots Q (F0 m pc ls st0) := by
  intro T hT X
  rcases hr T hT X with ⟨v, st₀, t, T', L, h0, X', hL, e1, e2, ⟨⟨r, u, hv, hp, hb⟩, hF⟩, st⟩ | ⟨q, st₀, t, T', L, E, ce, h0, X', hL, e1, e2, ⟨u, hp, hb, hF⟩, hce, hcv, hcl, st⟩
  · cases hv
    obtain ⟨k1, k2, k3⟩ := vx_keep h0 e1 hS hA hf hL hF
    obtain ⟨t2, a1, b1⟩ := kk r u t T'.heap (locs ++ L) e1.symm (by rw [← e2]; exact X'.warmed.alike) hp hb k1 k2 k3 T' rfl X'
    exact ⟨t2, st t2 a1, b1⟩
  · obtain ⟨k1, k2, k3⟩ := vx_keep h0 e1 hS hAX hf hL hF
    obtain ⟨t2, a1, b1⟩ := kx E ce q u t T'.heap (locs ++ L) e1.symm (by rw [← e2]; exact X'.warmed.alike) hp hb k1 k2 k3 (by rw [e1]; exact hce) hcv hcl T' rfl X'
    exact ⟨t2, st.trans a1, b1⟩
theorem vx_calll {S SX : Type} {post : Int64 → S → Prop} {px : SX → Prop} {B : S → State → Prop} {BX : String → SX → State → Prop} {AX : Nat → Prop} (hr : vx_Run p l e R s m args below meth c H locs cells slots mc ms (F0 m pc ls st0) rest (va_Ql post B A1 a) (vx_X px BX AX) free) (hS : va_S A0 H0 H locs) (hA : ∀ q, q < H.size → A1 q → A0 q) (hf : ∀ q, free q → A0 q) (hAX : ∀ q, q < H.size → AX q → A0 q)
    (kx : ∀ (E : String) (ce : Cell) (q9 : Addr) (u : SX) (t : State) (H1 : Heap) (locs1 : List Loc), t.heap = H1 → s.vm.Alike t.vm → px u → BX E u t → H.size ≤ H1.size → (∀ q : Nat, q < H.size → ¬ AX q → H1[q]? = H[q]?) → va_S A0 H0 H1 locs1 → H1[q9]? = some ce → ce.vm = .none → s.vm.findClass E = some ce.cls → vx_W p l e R s m args below meth c H1 locs1 (cells + mc) (slots + ms) Q (F0 m pc ls rest) q9)
    (kk : ∀ (r : Int64) (u : S) (t : State) (H1 : Heap) (locs1 : List Loc), t.heap = H1 → s.vm.Alike t.vm → post r u → B u t → H.size ≤ H1.size → (∀ q : Nat, q < H.size → ¬ A1 q → H1[q]? = H[q]?) → va_S A0 H0 H1 locs1 → W p l e R s m args below meth c H1 locs1 (cells + mc) (slots + ms) Q (F0 m (pc + 3) ls (.long r :: rest))) : W p l e R s m args below meth c H locs cells slots Q (F0 m pc ls st0) := by
  intro T hT X
  rcases hr T hT X with ⟨v, st₀, t, T', L, h0, X', hL, e1, e2, ⟨⟨r, u, hv, hp, hb⟩, hF⟩, st⟩ | ⟨q, st₀, t, T', L, E, ce, h0, X', hL, e1, e2, ⟨u, hp, hb, hF⟩, hce, hcv, hcl, st⟩
  · cases hv
    obtain ⟨k1, k2, k3⟩ := vx_keep h0 e1 hS hA hf hL hF
    obtain ⟨t2, a1, b1⟩ := kk r u t T'.heap (locs ++ L) e1.symm (by rw [← e2]; exact X'.warmed.alike) hp hb k1 k2 k3 T' rfl X'
    exact ⟨t2, st t2 a1, b1⟩
  · obtain ⟨k1, k2, k3⟩ := vx_keep h0 e1 hS hAX hf hL hF
    obtain ⟨t2, a1, b1⟩ := kx E ce q u t T'.heap (locs ++ L) e1.symm (by rw [← e2]; exact X'.warmed.alike) hp hb k1 k2 k3 (by rw [e1]; exact hce) hcv hcl T' rfl X'
    exact ⟨t2, st.trans a1, b1⟩
theorem vx_callf {S SX : Type} {post : UInt32 → S → Prop} {px : SX → Prop} {B : S → State → Prop} {BX : String → SX → State → Prop} {AX : Nat → Prop} (hr : vx_Run p l e R s m args below meth c H locs cells slots mc ms (F0 m pc ls st0) rest (va_Qf post B A1 a) (vx_X px BX AX) free) (hS : va_S A0 H0 H locs) (hA : ∀ q, q < H.size → A1 q → A0 q) (hf : ∀ q, free q → A0 q) (hAX : ∀ q, q < H.size → AX q → A0 q)
    (kx : ∀ (E : String) (ce : Cell) (q9 : Addr) (u : SX) (t : State) (H1 : Heap) (locs1 : List Loc), t.heap = H1 → s.vm.Alike t.vm → px u → BX E u t → H.size ≤ H1.size → (∀ q : Nat, q < H.size → ¬ AX q → H1[q]? = H[q]?) → va_S A0 H0 H1 locs1 → H1[q9]? = some ce → ce.vm = .none → s.vm.findClass E = some ce.cls → vx_W p l e R s m args below meth c H1 locs1 (cells + mc) (slots + ms) Q (F0 m pc ls rest) q9)
    (kk : ∀ (r : UInt32) (u : S) (t : State) (H1 : Heap) (locs1 : List Loc), t.heap = H1 → s.vm.Alike t.vm → post r u → B u t → H.size ≤ H1.size → (∀ q : Nat, q < H.size → ¬ A1 q → H1[q]? = H[q]?) → va_S A0 H0 H1 locs1 → W p l e R s m args below meth c H1 locs1 (cells + mc) (slots + ms) Q (F0 m (pc + 3) ls (.float r :: rest))) : W p l e R s m args below meth c H locs cells slots Q (F0 m pc ls st0) := by
  intro T hT X
  rcases hr T hT X with ⟨v, st₀, t, T', L, h0, X', hL, e1, e2, ⟨⟨r, u, hv, hp, hb⟩, hF⟩, st⟩ | ⟨q, st₀, t, T', L, E, ce, h0, X', hL, e1, e2, ⟨u, hp, hb, hF⟩, hce, hcv, hcl, st⟩
  · cases hv
    obtain ⟨k1, k2, k3⟩ := vx_keep h0 e1 hS hA hf hL hF
    obtain ⟨t2, a1, b1⟩ := kk r u t T'.heap (locs ++ L) e1.symm (by rw [← e2]; exact X'.warmed.alike) hp hb k1 k2 k3 T' rfl X'
    exact ⟨t2, st t2 a1, b1⟩
  · obtain ⟨k1, k2, k3⟩ := vx_keep h0 e1 hS hAX hf hL hF
    obtain ⟨t2, a1, b1⟩ := kx E ce q u t T'.heap (locs ++ L) e1.symm (by rw [← e2]; exact X'.warmed.alike) hp hb k1 k2 k3 (by rw [e1]; exact hce) hcv hcl T' rfl X'
    exact ⟨t2, st.trans a1, b1⟩
theorem vx_calld {S SX : Type} {post : UInt64 → S → Prop} {px : SX → Prop} {B : S → State → Prop} {BX : String → SX → State → Prop} {AX : Nat → Prop} (hr : vx_Run p l e R s m args below meth c H locs cells slots mc ms (F0 m pc ls st0) rest (va_Qd post B A1 a) (vx_X px BX AX) free) (hS : va_S A0 H0 H locs) (hA : ∀ q, q < H.size → A1 q → A0 q) (hf : ∀ q, free q → A0 q) (hAX : ∀ q, q < H.size → AX q → A0 q)
    (kx : ∀ (E : String) (ce : Cell) (q9 : Addr) (u : SX) (t : State) (H1 : Heap) (locs1 : List Loc), t.heap = H1 → s.vm.Alike t.vm → px u → BX E u t → H.size ≤ H1.size → (∀ q : Nat, q < H.size → ¬ AX q → H1[q]? = H[q]?) → va_S A0 H0 H1 locs1 → H1[q9]? = some ce → ce.vm = .none → s.vm.findClass E = some ce.cls → vx_W p l e R s m args below meth c H1 locs1 (cells + mc) (slots + ms) Q (F0 m pc ls rest) q9)
    (kk : ∀ (r : UInt64) (u : S) (t : State) (H1 : Heap) (locs1 : List Loc), t.heap = H1 → s.vm.Alike t.vm → post r u → B u t → H.size ≤ H1.size → (∀ q : Nat, q < H.size → ¬ A1 q → H1[q]? = H[q]?) → va_S A0 H0 H1 locs1 → W p l e R s m args below meth c H1 locs1 (cells + mc) (slots + ms) Q (F0 m (pc + 3) ls (.double r :: rest))) : W p l e R s m args below meth c H locs cells slots Q (F0 m pc ls st0) := by
  intro T hT X
  rcases hr T hT X with ⟨v, st₀, t, T', L, h0, X', hL, e1, e2, ⟨⟨r, u, hv, hp, hb⟩, hF⟩, st⟩ | ⟨q, st₀, t, T', L, E, ce, h0, X', hL, e1, e2, ⟨u, hp, hb, hF⟩, hce, hcv, hcl, st⟩
  · cases hv
    obtain ⟨k1, k2, k3⟩ := vx_keep h0 e1 hS hA hf hL hF
    obtain ⟨t2, a1, b1⟩ := kk r u t T'.heap (locs ++ L) e1.symm (by rw [← e2]; exact X'.warmed.alike) hp hb k1 k2 k3 T' rfl X'
    exact ⟨t2, st t2 a1, b1⟩
  · obtain ⟨k1, k2, k3⟩ := vx_keep h0 e1 hS hAX hf hL hF
    obtain ⟨t2, a1, b1⟩ := kx E ce q u t T'.heap (locs ++ L) e1.symm (by rw [← e2]; exact X'.warmed.alike) hp hb k1 k2 k3 (by rw [e1]; exact hce) hcv hcl T' rfl X'
    exact ⟨t2, st.trans a1, b1⟩
theorem vx_callv {S SX : Type} {post : S → Prop} {px : SX → Prop} {B : S → State → Prop} {BX : String → SX → State → Prop} {AX : Nat → Prop} (hr : vx_Run p l e R s m args below meth c H locs cells slots mc ms (F0 m pc ls st0) rest (va_Qv post B A1 a) (vx_X px BX AX) free) (hS : va_S A0 H0 H locs) (hA : ∀ q, q < H.size → A1 q → A0 q) (hf : ∀ q, free q → A0 q) (hAX : ∀ q, q < H.size → AX q → A0 q)
    (kx : ∀ (E : String) (ce : Cell) (q9 : Addr) (u : SX) (t : State) (H1 : Heap) (locs1 : List Loc), t.heap = H1 → s.vm.Alike t.vm → px u → BX E u t → H.size ≤ H1.size → (∀ q : Nat, q < H.size → ¬ AX q → H1[q]? = H[q]?) → va_S A0 H0 H1 locs1 → H1[q9]? = some ce → ce.vm = .none → s.vm.findClass E = some ce.cls → vx_W p l e R s m args below meth c H1 locs1 (cells + mc) (slots + ms) Q (F0 m pc ls rest) q9)
    (kk : ∀ (u : S) (t : State) (H1 : Heap) (locs1 : List Loc), t.heap = H1 → s.vm.Alike t.vm → post u → B u t → H.size ≤ H1.size → (∀ q : Nat, q < H.size → ¬ A1 q → H1[q]? = H[q]?) → va_S A0 H0 H1 locs1 → W p l e R s m args below meth c H1 locs1 (cells + mc) (slots + ms) Q (F0 m (pc + 3) ls (rest))) : W p l e R s m args below meth c H locs cells slots Q (F0 m pc ls st0) := by
  intro T hT X
  rcases hr T hT X with ⟨v, st₀, t, T', L, h0, X', hL, e1, e2, ⟨⟨u, hv, hp, hb⟩, hF⟩, st⟩ | ⟨q, st₀, t, T', L, E, ce, h0, X', hL, e1, e2, ⟨u, hp, hb, hF⟩, hce, hcv, hcl, st⟩
  · cases hv
    obtain ⟨k1, k2, k3⟩ := vx_keep h0 e1 hS hA hf hL hF
    obtain ⟨t2, a1, b1⟩ := kk u t T'.heap (locs ++ L) e1.symm (by rw [← e2]; exact X'.warmed.alike) hp hb k1 k2 k3 T' rfl X'
    exact ⟨t2, st t2 a1, b1⟩
  · obtain ⟨k1, k2, k3⟩ := vx_keep h0 e1 hS hAX hf hL hF
    obtain ⟨t2, a1, b1⟩ := kx E ce q u t T'.heap (locs ++ L) e1.symm (by rw [← e2]; exact X'.warmed.alike) hp hb k1 k2 k3 (by rw [e1]; exact hce) hcv hcl T' rfl X'
    exact ⟨t2, st.trans a1, b1⟩
/-- caught by the row x of this method's table; the rows ahead don't take it -/
theorem vx_catch {own name : String} {E : String} {ce : Cell} {q : Addr} (hown : s.vm.findClass own = some m.cls) (pre : List ExceptionTableEntry) (x : ExceptionTableEntry) (suf : List ExceptionTableEntry) (hsplit : c.exceptionTable.toList = pre ++ x :: suf)
    (hpass : ∀ z ∈ pre, covers z pc = false ∨ (z.catchType ≠ 0 ∧ ∃ nm : String, (Cond.classLink own z.catchType nm).before args s = true ∧ va_Nc E nm s)) (hx : covers x pc = true) (h0 : x.catchType ≠ 0)
    (hlink : (Cond.classLink own x.catchType name).before args s = true) (hcast : (Cond.castable E name).before args s = true) (hcell : H[q]? = some ce) (hv : ce.vm = .none) (hcl : s.vm.findClass E = some ce.cls)
    (kk : W p l e R s m args below meth c H locs cells slots Q (F0 m x.handlerPc ls [.ref q])) : vx_W p l e R s m args below meth c H locs cells slots Q (F0 m pc ls rest) q := by
  intro T hT X
  have hpl : e.platform.magicAccessors = ({} : Platform).magicAccessors := by rw [X.admits.platform]
  obtain ⟨c3, c4, hc3, hc4, hasg⟩ := Cond.castable_spec hcast
  cases Option.some.inj (hc3.symm.trans hcl)
  obtain ⟨c5, hc5, hcl5⟩ := Cond.classLink_spec hown hlink e.platform hpl
  cases Option.some.inj (hc4.symm.trans hc5)
  obtain ⟨vm', X', st⟩ := X.thenCaughtThrough q (g := F0 m pc ls rest) rfl (Steps.refl _) (by rw [hT]; exact hcell) (by rw [hv]; rfl) (by obtain ⟨k9, h9, -⟩ := Vm.findClass_spec hcl; exact ⟨k9, h9⟩) pre x suf hsplit
    (fun z hz => by
      rcases hpass z hz with h | ⟨hz0, nm, hl1, hn1⟩
      · exact Or.inl h
      · obtain ⟨c6, hc6, hcl6⟩ := Cond.classLink_spec hown hl1 e.platform hpl
        obtain ⟨a8, b8, h1, h2, h3⟩ := hn1
        cases Option.some.inj (h1.symm.trans hcl)
        cases Option.some.inj (h2.symm.trans hc6)
        exact Or.inr ⟨hz0, _, hcl6, h3⟩) hx (Or.inr ⟨h0, c4, hcl5, hasg⟩)
  obtain ⟨t, a1, b1⟩ := kk (T.setVm vm') hT X'
  exact ⟨t, st.trans a1, b1⟩
end Rows
section Ends
variable {p : Program} {l : Launch} {e : Env} {R : Room} {s : State} {m : MethodId} {args : Array Value} {below : List Frame} {meth : Method} {c : Code} {H : Heap} {locs : List Loc} {cells slots : Nat} {Q : State → Prop}
variable {mc ms : Nat} {free : Addr → Prop} {A0 A1 : Nat → Prop} {H0 : Heap} {a : Array Value} {ls : Array Slot} {st0 rest : List Value}
variable {Qc : Array Value → State → Outcome → State → Prop} {XC : String → State → State → Prop}
/-- what a body that may throw owes at its end -/
def vx_MQ (below : List Frame) (Qc : Array Value → State → Outcome → State → Prop) (XC : String → State → State → Prop) (a : Array Value) (s : State) (mc ms : Nat) (free : Addr → Prop) : State → Prop := fun t =>
  ∃ o, t.status = .running ∧ Ended t below o ∧ vx_Q Qc XC mc ms free a s o t
theorem vx_ret {g : JFrame} {mc ms : Nat} (k : W p l e R s m args below meth c H locs cells slots (MQ below Qc args s mc ms free) g) : W p l e R s m args below meth c H locs cells slots (vx_MQ below Qc XC args s mc ms free) g := by
  intro T hT X
  obtain ⟨t, a1, o, b1, b2, b3, b4⟩ := k T hT X
  exact ⟨t, a1, o, b1, b2, Or.inl ⟨b3, b4⟩⟩
/-- not caught here: it goes on to the caller -/
theorem vx_widen {g : JFrame} {q : Addr} {k n : Nat} (h1 : cells ≤ k) (h2 : slots ≤ n) (kk : vx_W p l e R s m args below meth c H locs k n Q g q) : vx_W p l e R s m args below meth c H locs cells slots Q g q := fun T hT X => kk T hT (stand_widen X h1 h2)
theorem vx_out {pc : Nat} {E : String} {ce : Cell} {q : Addr} {mc ms : Nat} (hout : ∀ x ∈ c.exceptionTable.toList, covers x pc = false) (hlocks : meth.locks = false) (hcell : H[q]? = some ce) (hv : ce.vm = .none) (hcl : s.vm.findClass E = some ce.cls)
    (hx : ∀ t : State, t.heap = H → s.vm.Alike t.vm → XC E s t) (hf : ∀ z ∈ locs, free z.base) (hc : cells ≤ mc) (hs : slots ≤ ms) :
    vx_W p l e R s m args below meth c H locs cells slots (vx_MQ below Qc XC args s mc ms free) (F0 m pc ls rest) q := by
  intro T hT X
  obtain ⟨st1, hrun, hend, hW, hsm⟩ := X.leaveThrown q (g := F0 m pc ls rest) rfl rfl rfl hout hlocks
  have hcell9 : (T.setFrames (.throwing q :: below)).heap[q]? = some ce := by
    show T.heap[q]? = some ce
    rw [hT]; exact hcell
  exact ⟨_, st1, .threw q, hrun, hend, Or.inr ⟨q, rfl, E, ce, locs, hx _ hT hW.alike, hcell9, hv, hcl, hW, hsm.mono hc hs, hf⟩⟩
theorem vx_frame {U : State} {k n : Nat} (h : s.sameButNew ({ U with vm := s.vm } : State) locs k n) : s.heap.size ≤ U.heap.size ∧ ∀ q : Nat, q < s.heap.size → (∀ z ∈ locs, z.base ≠ q) → U.heap[q]? = s.heap[q]? := by
  obtain ⟨-, h2, -, -, -, h6⟩ := h
  refine ⟨h2, fun q hq hz => ?_⟩
  obtain ⟨c9, e1, e2, e3, e4⟩ := h6 q _ (Array.getElem?_eq_getElem hq)
  have hs : c9.slots = (s.heap[q]).slots := Array.ext_getElem? fun i => e4 i fun hm => hz _ hm rfl
  have h9 : c9 = s.heap[q] := by
    rw [hs] at e2
    exact e2
  have e5 : U.heap[q]? = some c9 := e1
  rw [e5, h9, Array.getElem?_eq_getElem hq]
/-- the words of a throw but the four that speak of the heap -/
def vx_no (w : Cond) : Bool := decide (w ≠ .isRef (.static Bundle.tN "UNASSIGNED_STACK" Bundle.steD)) && decide (w ≠ .isRef (.static Bundle.tN "SUPPRESSED_SENTINEL" Bundle.listD)) && decide (w ≠ .laysStatic Bundle.tN "UNASSIGNED_STACK" Bundle.steD) && decide (w ≠ .laysStatic Bundle.tN "SUPPRESSED_SENTINEL" Bundle.listD)
def vx_at0 (own : String) (ic : Nat) (X : String) (names : List String) : List Cond := (Bundle.ownAtoms0 own ic X names).filter vx_no
def vx_atS (own : String) (ic : Nat) (X : String) (names : List String) : List Cond := (Bundle.ownAtoms own ic X names).filter vx_no
/-- a word that the tables alone decide, or a good one -/
def vx_ot (w : Cond) : Bool := w.onTables || goodWord w
theorem vx_ot_at {args a' : Array Value} {s U : State} {w : Cond} (hW : s.WarmedH U.vm) (hvm : s.vm = U.vm) (hg : vx_ot w = true) (h : w.before args s = true) : w.before a' U = true := by
  simp only [vx_ot, Bool.or_eq_true] at hg
  rcases hg with hg | hg
  · exact va_tabs hg hvm h
  · exact word_at hW (good_of_word hg) h
/-- a list's words: the good ones out of the method's own list, the others by premises of their own -/
theorem vx_hat {args : Array Value} {s : State} {L B : List Cond} (h1 : ∀ w ∈ L.filter goodWord, w.before args s = true) (h2 : ∀ w ∈ L.filter (fun w => !goodWord w), w ∈ B) (h3 : ∀ w ∈ B, w.before args s = true) : ∀ w ∈ L, w.before args s = true := by
  intro w hw
  by_cases g : goodWord w = true
  · exact h1 w (List.mem_filter.mpr ⟨hw, g⟩)
  · refine h3 w (h2 w (List.mem_filter.mpr ⟨hw, ?_⟩))
    show (!goodWord w) = true
    cases hgw : goodWord w
    · rfl
    · exact absurd hgw g
theorem vx_c {args : Array Value} {s : State} {w : Cond} {B : List Cond} (h : w.before args s = true) (t : ∀ w ∈ B, w.before args s = true) : ∀ w' ∈ w :: B, w'.before args s = true := fun w' h' => (List.mem_cons.mp h').elim (fun e => by rw [e]; exact h) (t w')
theorem vx_n {args : Array Value} {s : State} : ∀ w ∈ ([] : List Cond), w.before args s = true := fun _ h => nomatch h
theorem vx_own {args : Array Value} {s : State} {L : List Cond} (h1 : ∀ w ∈ L.filter vx_no, w.before args s = true)
    (hU : (Cond.isRef (.static Bundle.tN "UNASSIGNED_STACK" Bundle.steD)).before args s = true) (hN : (Cond.isRef (.static Bundle.tN "SUPPRESSED_SENTINEL" Bundle.listD)).before args s = true)
    (lU : (Cond.laysStatic Bundle.tN "UNASSIGNED_STACK" Bundle.steD).before args s = true) (lN : (Cond.laysStatic Bundle.tN "SUPPRESSED_SENTINEL" Bundle.listD).before args s = true) : ∀ w ∈ L, w.before args s = true := by
  intro w hw
  by_cases e1 : w = .isRef (.static Bundle.tN "UNASSIGNED_STACK" Bundle.steD)
  · rw [e1]; exact hU
  · by_cases e2 : w = .isRef (.static Bundle.tN "SUPPRESSED_SENTINEL" Bundle.listD)
    · rw [e2]; exact hN
    · by_cases e3 : w = .laysStatic Bundle.tN "UNASSIGNED_STACK" Bundle.steD
      · rw [e3]; exact lU
      · by_cases e4 : w = .laysStatic Bundle.tN "SUPPRESSED_SENTINEL" Bundle.listD
        · rw [e4]; exact lN
        · exact h1 w (List.mem_filter.mpr ⟨hw, by unfold vx_no; rw [decide_eq_true e1, decide_eq_true e2, decide_eq_true e3, decide_eq_true e4]; rfl⟩)
/-- where a static field lies, its class's statics cell in H -/
def vx_L (C n d : String) (A : Nat → Prop) (U : State) (H : Heap) : Prop := ∃ (c : ClassId) (k : Class) (i : Nat) (f : Field) (a : Nat) (cell : Cell), U.vm.findClass C = some c ∧ U.fieldFound? C n d = some (c, k, i, f) ∧ f.isStatic = true ∧ k.statics = some a ∧ H[a]? = some cell ∧ cell.vm.isStatics = true ∧ cell.cls = c ∧ f.slot < cell.slots.size ∧ k.staticTypes[f.slot]? = some f.type ∧ ¬ A a
theorem vx_L.moved {C n d : String} {A : Nat → Prop} {u U : State} {H : Heap} (hvm : u.vm.Alike U.vm) (h : vx_L C n d A u H) : vx_L C n d A U H := by
  obtain ⟨c, k, i, f, a, cell, h1, h2, h3, h4, h5, h6, h7, h8, h9, h10⟩ := h
  obtain ⟨k', hi', he⟩ := State.fieldFound?_setVm hvm h2
  exact ⟨c, k', i, f, a, cell, by rw [hvm.findClass]; exact h1, hi', h3, by rw [he]; exact h4, h5, h6, h7, h8, by rw [he]; exact h9, h10⟩
theorem vx_L.kept {C n d : String} {A : Nat → Prop} {U : State} {H H1 : Heap} (h : vx_L C n d A U H) (hq : ∀ a : Nat, a < H.size → ¬ A a → H1[a]? = H[a]?) : vx_L C n d A U H1 := by
  obtain ⟨c, k, i, f, a, cell, h1, h2, h3, h4, h5, h6, h7, h8, h9, h10⟩ := h
  exact ⟨c, k, i, f, a, cell, h1, h2, h3, h4, by rw [hq a (Array.getElem?_eq_some_iff.mp h5).1 h10]; exact h5, h6, h7, h8, h9, h10⟩
theorem vx_L.narrow {C n d : String} {A B : Nat → Prop} {U : State} {H : Heap} (h : vx_L C n d A U H) (hAB : ∀ q, B q → A q) : vx_L C n d B U H := by
  obtain ⟨c, k, i, f, a, cell, h1, h2, h3, h4, h5, h6, h7, h8, h9, h10⟩ := h
  exact ⟨c, k, i, f, a, cell, h1, h2, h3, h4, h5, h6, h7, h8, h9, fun z => h10 (hAB _ z)⟩
theorem vx_L.word {C n d : String} {A : Nat → Prop} {s : State} {args : Array Value} (h : vx_L C n d A s s.heap) : (Cond.laysStatic C n d).before args s = true := by
  obtain ⟨c, k, i, f, a, cell, h1, h2, h3, h4, h5, h6, h7, h8, h9, -⟩ := h
  show (Cond.laysStatic C n d).holds args s none s [] = true
  exact Cond.laysStatic_of h1 h2 h3 h4 h5 h6 h7 h8 h9
/-- .. and what it holds: null or some reference -/
def vx_Zq (C n d : String) (A : Nat → Prop) (U : State) (H : Heap) : Prop := va_Zq C n d A U H ∧ vx_L C n d A U H
theorem vx_Zq.moved {C n d : String} {A : Nat → Prop} {u U : State} {H : Heap} (hvm : u.vm.Alike U.vm) (h : vx_Zq C n d A u H) : vx_Zq C n d A U H := ⟨va_Zq.moved hvm h.1, vx_L.moved hvm h.2⟩
theorem vx_Zq.kept {C n d : String} {A : Nat → Prop} {U : State} {H H1 : Heap} (h : vx_Zq C n d A U H) (hq : ∀ a : Nat, a < H.size → ¬ A a → H1[a]? = H[a]?) : vx_Zq C n d A U H1 := ⟨va_Zq.kept h.1 hq, vx_L.kept h.2 hq⟩
theorem vx_Zq.narrow {C n d : String} {A B : Nat → Prop} {U : State} {H : Heap} (h : vx_Zq C n d A U H) (hAB : ∀ q, B q → A q) : vx_Zq C n d B U H := ⟨va_Zq.narrow h.1 hAB, vx_L.narrow h.2 hAB⟩
theorem vx_Zqof {args : Array Value} {s : State} {C n d : String} {A : Nat → Prop} (hl : (Cond.laysStatic C n d).before args s = true) (hini : (Cond.initialized C).before args s = true) (h : (Cond.isRef (.static C n d)).before args s = true) (hA : ∀ a : Nat, a < s.heap.size → ¬ A a) : vx_Zq C n d A s s.heap := by
  refine ⟨va_Zqof hl hini h hA, ?_⟩
  obtain ⟨c, k, i, f, a, cell, h1, h2, h3, h4, h5, h6, h7, h8, h9⟩ := Cond.laysStatic_spec hl
  exact ⟨c, k, i, f, a, cell, h1, h2, h3, h4, h5, h6, h7, h8, h9, hA a (Array.getElem?_eq_some_iff.mp h5).1⟩
theorem vx_isRef {C n d : String} {v : Value} {A : Nat → Prop} {s : State} {args : Array Value} (h : va_Z C n d v A s s.heap) (hv : v.isRef = true) : (Cond.isRef (.static C n d)).before args s = true := by
  obtain ⟨cf, kf, fi, f, a, cell, h1, h2, h3, h4, h5, h6, h7, -⟩ := h
  have he : (Term.static C n d).eval args s none [] s = some v := by
    simp [Term.eval, State.fieldNamed?, h1, h2, h4, h5, h6, h7]
  simp only [Cond.before, Cond.holds, Cond.value, he]
  cases v <;> simp_all [Value.isRef]
theorem vx_isRefq {C n d : String} {A : Nat → Prop} {s : State} {args : Array Value} (h : va_Zq C n d A s s.heap) : (Cond.isRef (.static C n d)).before args s = true := by
  rcases h with h | ⟨t, h⟩
  · exact vx_isRef h rfl
  · exact vx_isRef h rfl
/-- the same frame, seen from here: as if the method were called anew in this heap -/
theorem vx_rebase {T : State} (X : Stand p l e R s m args below meth c T locs cells slots) {R' : Room} (hf : R'.frames ≤ R.frames) (hl : R'.locals ≤ R.locals) (hc : cells + R'.cells ≤ R.cells) (hs : slots + R'.slots ≤ R.slots) :
    Stand p l e R' ((T.setVm s.vm).setFrames (.invoking m args :: below)) m args below meth c T [] 0 0 := by
  have htop : (T.setVm s.vm).topJava?.isSome := X.here.top
  have hF : ((T.setVm s.vm).setFrames (.invoking m args :: below)).frames = .invoking m args :: below := State.frames_setFrames _ (State.cur_lt_of_top htop)
  obtain ⟨g₀, hg0⟩ := Option.isSome_iff_exists.mp htop
  obtain ⟨r, hr⟩ := State.topJava?_eq_some.mp hg0
  have hl9 : e.platform.stackLimits (T.setVm s.vm).me = e.platform.stackLimits s.me := X.limits
  have hb9 : (T.setVm s.vm).me.stackBytes = s.me.stackBytes := X.bytes
  refine ⟨X.admits, X.cas, X.clock, hF, ?_, X.hears, X.method, X.code, X.here, X.tail, X.warmed, ?_, ?_, ?_⟩
  · have h := X.room
    have hU : ((T.setVm s.vm).setFrames (.invoking m args :: below)).localsInUse = s.localsInUse := by
      rw [State.localsInUse_invoking hF (meth := meth) (c := c) X.method X.code, State.localsInUse_invoking X.frames X.method X.code]
    simp only [State.hasRoom, Bool.and_eq_true, decide_eq_true_eq] at h ⊢
    obtain ⟨⟨⟨⟨h1, h2, h3, h4, h5, h6⟩, h7⟩, h8⟩, h9⟩ := h
    rw [X.frames, List.length_cons] at h2 h3
    have q1 := X.heapSize
    have q2 := X.used
    simp only [hF, hU, List.length_cons, State.stackLimits_setFrames, State.stackBytes_setFrames, hl9, hb9]
    refine ⟨⟨⟨⟨by omega, by omega, by omega, by omega, by omega, h6⟩, ?_⟩, ?_⟩, X.book⟩
    · show T.heap.size + R'.cells ≤ e.platform.maxCells
      omega
    · show T.slotsUsed + R'.slots ≤ e.platform.maxSlots
      omega
  · rw [State.stackLimits_setFrames]; rfl
  · rw [State.stackBytes_setFrames]; rfl
  · refine ⟨?_, Nat.le_refl _, Nat.le_refl _, ?_, ?_, fun a c9 h9 => ⟨c9, h9, rfl, rfl, fun _ _ => rfl⟩⟩
    · obtain ⟨t, ht, -⟩ := State.frames_cons hr
      show T.setVm s.vm = { ((T.setVm s.vm).setFrames (.invoking m args :: below)).setFrames (T.setVm s.vm).frames with heap := T.heap, slotsUsed := T.slotsUsed }
      rw [State.setFrames_setFrames, State.setFrames_self ht]
      rfl
    · show T.slotsUsed = T.slotsUsed + ((T.heap.toList.drop T.heap.size).map (·.slots.size)).sum
      rw [List.drop_eq_nil_of_le (Nat.le_of_eq Array.length_toList)]
      rfl
    · show ((T.heap.toList.drop T.heap.size).map (·.slots.size)).sum ≤ 0
      rw [List.drop_eq_nil_of_le (Nat.le_of_eq Array.length_toList)]
      exact Nat.le_refl _
/-- 'throw new E()': new; dup; invokespecial; athrow -/
theorem vx_throw0 {cc : ByteArray} {pc : Nat} (hexec : p.tables.exec = Jvm.exec) (hb : c.code = cc) (hl : l.stackTraces = false) {own cls : String} {names : List String} {ik ic mc ms : Nat} {A : Nat → Prop}
    (hown : s.vm.findClass own = some m.cls) (hcls : Bundle.fit cls = true) (hnames : ∀ n ∈ names, Bundle.fit n = true)
    (hk : (Cond.classLink own ik cls).before args s = true) (hini : (Cond.initialized cls).before args s = true) (hat : ∀ w ∈ vx_at0 own ic cls names, w.before args s = true)
    (hgood : ∀ w ∈ Cond.classLink own ik cls :: Cond.initialized cls :: vx_at0 own ic cls names, vx_ot w = true)
    (hU : vx_Zq Bundle.tN "UNASSIGNED_STACK" Bundle.steD A s s.heap) (hN : vx_Zq Bundle.tN "SUPPRESSED_SENTINEL" Bundle.listD A s s.heap) (hS : va_S A s.heap H locs) (hsize : ls.size = c.maxLocals)
    (d0 : decode cc pc = .ok (.new ik, 3)) (d3 : decode cc (pc + 3) = .ok (.dup, 1)) (d4 : decode cc (pc + 4) = .ok (.invokespecial ic, 3)) (d7 : decode cc (pc + 7) = .ok (.athrow, 1))
    (hout : ∀ x ∈ c.exceptionTable.toList, covers x (pc + 7) = false)
    (hRframes : names.length + 3 < R.frames) (hRlocals : (rest.map fun v => v.category).sum + (13 * (names.length + 1) + 42) ≤ R.locals) (hRcells : cells + 1 ≤ R.cells) (hRslots : slots + 6 ≤ R.slots) (hlocks : meth.locks = false)
    (hx : ∀ t : State, s.vm.Alike t.vm → H.size ≤ t.heap.size → (∀ q : Nat, q < H.size → t.heap[q]? = H[q]?) → XC cls s t)
    (hf : ∀ z ∈ locs, free z.base) (hc : cells + 1 ≤ mc) (hs : slots + 6 ≤ ms) :
    W p l e R s m args below meth c H locs cells slots (vx_MQ below Qc XC args s mc ms free) (F0 m pc ls rest) := by
  intro T hT X
  have htr : e.platform.stackTraces = false := (show e.platform.stackTraces = l.stackTraces by rw [X.admits.platform]).trans hl
  have Y := vx_rebase X (R' := { frames := R.frames, locals := R.locals, cells := 1, slots := 6 }) (Nat.le_refl _) (Nat.le_refl _) hRcells hRslots
  obtain ⟨s', hA⟩ : ∃ z, z = (T.setVm s.vm).setFrames (.invoking m args :: below) := ⟨_, rfl⟩
  rw [← hA] at Y
  have hvm : s'.vm = s.vm := by rw [hA]; rfl
  have hhp : s'.heap = H := by rw [hA]; exact hT
  have hW0 : s.WarmedH s'.vm := by rw [hvm]; exact State.WarmedH.refl s
  have hat' : ∀ w ∈ vx_at0 own ic cls names, w.before args s' = true := fun w hw => vx_ot_at hW0 hvm.symm (hgood w (List.mem_cons_of_mem _ (List.mem_cons_of_mem _ hw))) (hat w hw)
  have hk' : (Cond.classLink own ik cls).before args s' = true := vx_ot_at hW0 hvm.symm (hgood _ List.mem_cons_self) hk
  have hini' : (Cond.initialized cls).before args s' = true := vx_ot_at hW0 hvm.symm (hgood _ (List.mem_cons_of_mem _ List.mem_cons_self)) hini
  have hU' : vx_Zq Bundle.tN "UNASSIGNED_STACK" Bundle.steD A s' s'.heap := by rw [hhp]; exact vx_Zq.moved hW0.alike (hU.kept hS.2.1)
  have hN' : vx_Zq Bundle.tN "SUPPRESSED_SENTINEL" Bundle.listD A s' s'.heap := by rw [hhp]; exact vx_Zq.moved hW0.alike (hN.kept hS.2.1)
  have h : ∀ w ∈ Bundle.ownAtoms0 own ic cls names, w.before args s' = true := vx_own hat' (vx_isRefq hU'.1) (vx_isRefq hN'.1) hU'.2.word hN'.2.word
  have hown' : s'.vm.findClass own = some m.cls := by rw [hvm]; exact hown
  have hins : (Cond.instantiable cls 6).before args s' = true := h _ (by simp [Bundle.ownAtoms0])
  obtain ⟨vm₁, cX, kX, hfX, hkX, -, -, X₁, st1⟩ := Y.newCold hexec (own := own) (C := cls) (index := ik) (n := 6) hown' hk' hins hini'
    (g := F0 m pc ls rest) rfl (by rw [hb]; exact d0) (Nat.le_refl _) (Nat.le_refl _)
  generalize hT1 : (T.setVm vm₁).pushCell { cls := cX, slots := kX.instanceTypes.map defaultValue, vm := .none } = T1 at X₁ st1
  have hcat : (Value.ref T.heap.size).category = 1 := rfl
  have hcellA : T1.heap[T.heap.size]? = some (freshCell cX kX) := by rw [← hT1]; exact State.heap_pushCell_size _ _
  have d3' : decode c.code (pc + 3) = .ok (.dup, 1) := by rw [hb]; exact d3
  obtain ⟨U, hsteps, hrun, hend, hW, hsame, ce, hce, hO⟩ := X₁.ctorThrow0 hexec htr (own := own) (cls := cls) (names := names) (ic := ic) hown' hcls hnames h (fun x hx => nomatch hx) hfX hkX hcellA (by rw [hhp, hT]; exact Nat.le_refl _)
    (g := { method := m, pc := pc + 4, locals := ls, stack := .ref T.heap.size :: .ref T.heap.size :: rest, locked := none }) rfl hsize rfl rfl (rest := rest) rfl
    (by rw [hb]; exact d4) (by rw [hb]; exact d7) hout hRframes (by simp only [List.map_cons, List.sum_cons, hcat]; omega) hlocks
  obtain ⟨f1, f2⟩ := vx_frame hsame
  rw [hhp] at f1 f2
  have hWs : s.WarmedH U.vm := State.WarmedH.trans hW0 hW
  have hcl : s.vm.findClass cls = some ce.cls := by
    have h9 := hO.cls
    rw [hvm] at h9
    exact h9
  have hall : s.sameButNew ({ U with vm := s.vm } : State) locs mc ms := by
    subst hA
    obtain ⟨e1, e2⟩ := hsame
    rw [State.setFrames_setFrames] at e1
    have h2 : (T.setVm s.vm).sameButNew ({ U with vm := s.vm } : State) [] (0 + 1) (0 + 6) := ⟨e1, e2⟩
    have h3 := X.same.trans h2
    rw [List.append_nil] at h3
    exact h3.mono hc hs
  refine ⟨U, ?_, .threw T.heap.size, hrun, hend, Or.inr ⟨T.heap.size, rfl, cls, ce, locs, hx U hWs.alike f1 (fun q hq => f2 q hq (fun z hz => nomatch hz)), hce, hO.vm, hcl, hWs, hall, hf⟩⟩
  refine st1 _ ?_
  show Steps p.tables e below (T1.setTop { method := m, pc := pc + 3, locals := ls, stack := .ref T.heap.size :: rest, locked := none }) _
  jvm_step X₁.here [X₁.here.top, hexec, d3', Value.category]
  exact hsteps
/-- 'throw new E("text")': new; dup; ldc; invokespecial; athrow -/
theorem vx_throwS {cc : ByteArray} {pc : Nat} (hexec : p.tables.exec = Jvm.exec) (hb : c.code = cc) (hl : l.stackTraces = false) {own cls text : String} {names : List String} {ik is ic mc ms sa : Nat} {A : Nat → Prop}
    (hown : s.vm.findClass own = some m.cls) (hcls : Bundle.fit cls = true) (hnames : ∀ n ∈ names, Bundle.fit n = true)
    (hk : (Cond.classLink own ik cls).before args s = true) (hini : (Cond.initialized cls).before args s = true) (hstr : vk_R own is text sa s) (hat : ∀ w ∈ vx_atS own ic cls names, w.before args s = true)
    (hgood : ∀ w ∈ Cond.classLink own ik cls :: Cond.initialized cls :: vx_atS own ic cls names, vx_ot w = true)
    (hU : vx_Zq Bundle.tN "UNASSIGNED_STACK" Bundle.steD A s s.heap) (hN : vx_Zq Bundle.tN "SUPPRESSED_SENTINEL" Bundle.listD A s s.heap) (hS : va_S A s.heap H locs) (hsize : ls.size = c.maxLocals)
    (d0 : decode cc pc = .ok (.new ik, 3)) (d3 : decode cc (pc + 3) = .ok (.dup, 1)) (d4 : decode cc (pc + 4) = .ok (.ldc is, 2)) (d6 : decode cc (pc + 6) = .ok (.invokespecial ic, 3)) (d9 : decode cc (pc + 9) = .ok (.athrow, 1))
    (hout : ∀ x ∈ c.exceptionTable.toList, covers x (pc + 9) = false)
    (hRframes : names.length + 3 < R.frames) (hRlocals : (rest.map fun v => v.category).sum + (13 * (names.length + 1) + 43) ≤ R.locals) (hRcells : cells + 1 ≤ R.cells) (hRslots : slots + 6 ≤ R.slots) (hlocks : meth.locks = false)
    (hx : ∀ t : State, s.vm.Alike t.vm → H.size ≤ t.heap.size → (∀ q : Nat, q < H.size → t.heap[q]? = H[q]?) → XC cls s t)
    (hf : ∀ z ∈ locs, free z.base) (hc : cells + 1 ≤ mc) (hs : slots + 6 ≤ ms) :
    W p l e R s m args below meth c H locs cells slots (vx_MQ below Qc XC args s mc ms free) (F0 m pc ls rest) := by
  intro T hT X
  have htr : e.platform.stackTraces = false := (show e.platform.stackTraces = l.stackTraces by rw [X.admits.platform]).trans hl
  have Y := vx_rebase X (R' := { frames := R.frames, locals := R.locals, cells := 1, slots := 6 }) (Nat.le_refl _) (Nat.le_refl _) hRcells hRslots
  obtain ⟨s', hA⟩ : ∃ z, z = (T.setVm s.vm).setFrames (.invoking m args :: below) := ⟨_, rfl⟩
  rw [← hA] at Y
  have hvm : s'.vm = s.vm := by rw [hA]; rfl
  have hhp : s'.heap = H := by rw [hA]; exact hT
  have hW0 : s.WarmedH s'.vm := by rw [hvm]; exact State.WarmedH.refl s
  have hat' : ∀ w ∈ vx_atS own ic cls names, w.before args s' = true := fun w hw => vx_ot_at hW0 hvm.symm (hgood w (List.mem_cons_of_mem _ (List.mem_cons_of_mem _ hw))) (hat w hw)
  have hk' : (Cond.classLink own ik cls).before args s' = true := vx_ot_at hW0 hvm.symm (hgood _ List.mem_cons_self) hk
  have hini' : (Cond.initialized cls).before args s' = true := vx_ot_at hW0 hvm.symm (hgood _ (List.mem_cons_of_mem _ List.mem_cons_self)) hini
  have hU' : vx_Zq Bundle.tN "UNASSIGNED_STACK" Bundle.steD A s' s'.heap := by rw [hhp]; exact vx_Zq.moved hW0.alike (hU.kept hS.2.1)
  have hN' : vx_Zq Bundle.tN "SUPPRESSED_SENTINEL" Bundle.listD A s' s'.heap := by rw [hhp]; exact vx_Zq.moved hW0.alike (hN.kept hS.2.1)
  have h : ∀ w ∈ Bundle.ownAtoms own ic cls names, w.before args s' = true := vx_own hat' (vx_isRefq hU'.1) (vx_isRefq hN'.1) hU'.2.word hN'.2.word
  have hown' : s'.vm.findClass own = some m.cls := by rw [hvm]; exact hown
  have hins : (Cond.instantiable cls 6).before args s' = true := h _ (by simp [Bundle.ownAtoms])
  obtain ⟨vm₁, cX, kX, hfX, hkX, -, -, X₁, st1⟩ := Y.newCold hexec (own := own) (C := cls) (index := ik) (n := 6) hown' hk' hins hini'
    (g := F0 m pc ls rest) rfl (by rw [hb]; exact d0) (Nat.le_refl _) (Nat.le_refl _)
  generalize hT1 : (T.setVm vm₁).pushCell { cls := cX, slots := kX.instanceTypes.map defaultValue, vm := .none } = T1 at X₁ st1
  have hcat : (Value.ref T.heap.size).category = 1 := rfl
  have hcellA : T1.heap[T.heap.size]? = some (freshCell cX kX) := by rw [← hT1]; exact State.heap_pushCell_size _ _
  have d3' : decode c.code (pc + 3) = .ok (.dup, 1) := by rw [hb]; exact d3
  have d4' : decode c.code (pc + 4) = .ok (.ldc is, 2) := by rw [hb]; exact d4
  have hstr' : vk_R own is text sa s' := vk_R.warm hW0 hstr
  obtain ⟨U, hsteps, hrun, hend, hW, hsame, ce, hce, hO⟩ := X₁.ctorThrowS hexec htr (own := own) (cls := cls) (names := names) (ic := ic) hown' hcls hnames h (fun x hx => nomatch hx) hfX hkX hcellA (by rw [hhp, hT]; exact Nat.le_refl _) (msg := .ref sa) rfl
    (g := { method := m, pc := pc + 6, locals := ls, stack := .ref sa :: .ref T.heap.size :: .ref T.heap.size :: rest, locked := none }) rfl hsize rfl rfl (rest := rest) rfl
    (by rw [hb]; exact d6) (by rw [hb]; exact d9) hout hRframes (by simp only [List.map_cons, List.sum_cons, hcat]; omega) hlocks
  obtain ⟨f1, f2⟩ := vx_frame hsame
  rw [hhp] at f1 f2
  have hWs : s.WarmedH U.vm := State.WarmedH.trans hW0 hW
  have hcl : s.vm.findClass cls = some ce.cls := by
    have h9 := hO.cls
    rw [hvm] at h9
    exact h9
  have hall : s.sameButNew ({ U with vm := s.vm } : State) locs mc ms := by
    subst hA
    obtain ⟨e1, e2⟩ := hsame
    rw [State.setFrames_setFrames] at e1
    have h2 : (T.setVm s.vm).sameButNew ({ U with vm := s.vm } : State) [] (0 + 1) (0 + 6) := ⟨e1, e2⟩
    have h3 := X.same.trans h2
    rw [List.append_nil] at h3
    exact h3.mono hc hs
  refine ⟨U, ?_, .threw T.heap.size, hrun, hend, Or.inr ⟨T.heap.size, rfl, cls, ce, locs, hx U hWs.alike f1 (fun q hq => f2 q hq (fun z hz => nomatch hz)), hce, hO.vm, hcl, hWs, hall, hf⟩⟩
  refine st1 _ ?_
  show Steps p.tables e below (T1.setTop { method := m, pc := pc + 3, locals := ls, stack := .ref T.heap.size :: rest, locked := none }) _
  jvm_step X₁.here [X₁.here.top, hexec, d3', Value.category]
  exact X₁.ldcString hexec (own := own) (text := text) (index := is) (a := sa) hown' hstr'.1 hstr'.2
    (g := { method := m, pc := pc + 4, locals := ls, stack := .ref T.heap.size :: .ref T.heap.size :: rest, locked := none }) rfl d4' _ hsteps
/-- 'throw new E("text")', the text by a wide index -/
theorem vx_throwSW {cc : ByteArray} {pc : Nat} (hexec : p.tables.exec = Jvm.exec) (hb : c.code = cc) (hl : l.stackTraces = false) {own cls text : String} {names : List String} {ik is ic mc ms sa : Nat} {A : Nat → Prop}
    (hown : s.vm.findClass own = some m.cls) (hcls : Bundle.fit cls = true) (hnames : ∀ n ∈ names, Bundle.fit n = true)
    (hk : (Cond.classLink own ik cls).before args s = true) (hini : (Cond.initialized cls).before args s = true) (hstr : vk_R own is text sa s) (hat : ∀ w ∈ vx_atS own ic cls names, w.before args s = true)
    (hgood : ∀ w ∈ Cond.classLink own ik cls :: Cond.initialized cls :: vx_atS own ic cls names, vx_ot w = true)
    (hU : vx_Zq Bundle.tN "UNASSIGNED_STACK" Bundle.steD A s s.heap) (hN : vx_Zq Bundle.tN "SUPPRESSED_SENTINEL" Bundle.listD A s s.heap) (hS : va_S A s.heap H locs) (hsize : ls.size = c.maxLocals)
    (d0 : decode cc pc = .ok (.new ik, 3)) (d3 : decode cc (pc + 3) = .ok (.dup, 1)) (d4 : decode cc (pc + 4) = .ok (.ldc_w is, 3)) (d7 : decode cc (pc + 7) = .ok (.invokespecial ic, 3)) (d10 : decode cc (pc + 10) = .ok (.athrow, 1))
    (hout : ∀ x ∈ c.exceptionTable.toList, covers x (pc + 10) = false)
    (hRframes : names.length + 3 < R.frames) (hRlocals : (rest.map fun v => v.category).sum + (13 * (names.length + 1) + 43) ≤ R.locals) (hRcells : cells + 1 ≤ R.cells) (hRslots : slots + 6 ≤ R.slots) (hlocks : meth.locks = false)
    (hx : ∀ t : State, s.vm.Alike t.vm → H.size ≤ t.heap.size → (∀ q : Nat, q < H.size → t.heap[q]? = H[q]?) → XC cls s t)
    (hf : ∀ z ∈ locs, free z.base) (hc : cells + 1 ≤ mc) (hs : slots + 6 ≤ ms) :
    W p l e R s m args below meth c H locs cells slots (vx_MQ below Qc XC args s mc ms free) (F0 m pc ls rest) := by
  intro T hT X
  have htr : e.platform.stackTraces = false := (show e.platform.stackTraces = l.stackTraces by rw [X.admits.platform]).trans hl
  have Y := vx_rebase X (R' := { frames := R.frames, locals := R.locals, cells := 1, slots := 6 }) (Nat.le_refl _) (Nat.le_refl _) hRcells hRslots
  obtain ⟨s', hA⟩ : ∃ z, z = (T.setVm s.vm).setFrames (.invoking m args :: below) := ⟨_, rfl⟩
  rw [← hA] at Y
  have hvm : s'.vm = s.vm := by rw [hA]; rfl
  have hhp : s'.heap = H := by rw [hA]; exact hT
  have hW0 : s.WarmedH s'.vm := by rw [hvm]; exact State.WarmedH.refl s
  have hat' : ∀ w ∈ vx_atS own ic cls names, w.before args s' = true := fun w hw => vx_ot_at hW0 hvm.symm (hgood w (List.mem_cons_of_mem _ (List.mem_cons_of_mem _ hw))) (hat w hw)
  have hk' : (Cond.classLink own ik cls).before args s' = true := vx_ot_at hW0 hvm.symm (hgood _ List.mem_cons_self) hk
  have hini' : (Cond.initialized cls).before args s' = true := vx_ot_at hW0 hvm.symm (hgood _ (List.mem_cons_of_mem _ List.mem_cons_self)) hini
  have hU' : vx_Zq Bundle.tN "UNASSIGNED_STACK" Bundle.steD A s' s'.heap := by rw [hhp]; exact vx_Zq.moved hW0.alike (hU.kept hS.2.1)
  have hN' : vx_Zq Bundle.tN "SUPPRESSED_SENTINEL" Bundle.listD A s' s'.heap := by rw [hhp]; exact vx_Zq.moved hW0.alike (hN.kept hS.2.1)
  have h : ∀ w ∈ Bundle.ownAtoms own ic cls names, w.before args s' = true := vx_own hat' (vx_isRefq hU'.1) (vx_isRefq hN'.1) hU'.2.word hN'.2.word
  have hown' : s'.vm.findClass own = some m.cls := by rw [hvm]; exact hown
  have hins : (Cond.instantiable cls 6).before args s' = true := h _ (by simp [Bundle.ownAtoms])
  obtain ⟨vm₁, cX, kX, hfX, hkX, -, -, X₁, st1⟩ := Y.newCold hexec (own := own) (C := cls) (index := ik) (n := 6) hown' hk' hins hini'
    (g := F0 m pc ls rest) rfl (by rw [hb]; exact d0) (Nat.le_refl _) (Nat.le_refl _)
  generalize hT1 : (T.setVm vm₁).pushCell { cls := cX, slots := kX.instanceTypes.map defaultValue, vm := .none } = T1 at X₁ st1
  have hcat : (Value.ref T.heap.size).category = 1 := rfl
  have hcellA : T1.heap[T.heap.size]? = some (freshCell cX kX) := by rw [← hT1]; exact State.heap_pushCell_size _ _
  have d3' : decode c.code (pc + 3) = .ok (.dup, 1) := by rw [hb]; exact d3
  have d4' : decode c.code (pc + 4) = .ok (.ldc_w is, 3) := by rw [hb]; exact d4
  have hstr' : vk_R own is text sa s' := vk_R.warm hW0 hstr
  obtain ⟨U, hsteps, hrun, hend, hW, hsame, ce, hce, hO⟩ := X₁.ctorThrowS hexec htr (own := own) (cls := cls) (names := names) (ic := ic) hown' hcls hnames h (fun x hx => nomatch hx) hfX hkX hcellA (by rw [hhp, hT]; exact Nat.le_refl _) (msg := .ref sa) rfl
    (g := { method := m, pc := pc + 7, locals := ls, stack := .ref sa :: .ref T.heap.size :: .ref T.heap.size :: rest, locked := none }) rfl hsize rfl rfl (rest := rest) rfl
    (by rw [hb]; exact d7) (by rw [hb]; exact d10) hout hRframes (by simp only [List.map_cons, List.sum_cons, hcat]; omega) hlocks
  obtain ⟨f1, f2⟩ := vx_frame hsame
  rw [hhp] at f1 f2
  have hWs : s.WarmedH U.vm := State.WarmedH.trans hW0 hW
  have hcl : s.vm.findClass cls = some ce.cls := by
    have h9 := hO.cls
    rw [hvm] at h9
    exact h9
  have hall : s.sameButNew ({ U with vm := s.vm } : State) locs mc ms := by
    subst hA
    obtain ⟨e1, e2⟩ := hsame
    rw [State.setFrames_setFrames] at e1
    have h2 : (T.setVm s.vm).sameButNew ({ U with vm := s.vm } : State) [] (0 + 1) (0 + 6) := ⟨e1, e2⟩
    have h3 := X.same.trans h2
    rw [List.append_nil] at h3
    exact h3.mono hc hs
  refine ⟨U, ?_, .threw T.heap.size, hrun, hend, Or.inr ⟨T.heap.size, rfl, cls, ce, locs, hx U hWs.alike f1 (fun q hq => f2 q hq (fun z hz => nomatch hz)), hce, hO.vm, hcl, hWs, hall, hf⟩⟩
  refine st1 _ ?_
  show Steps p.tables e below (T1.setTop { method := m, pc := pc + 3, locals := ls, stack := .ref T.heap.size :: rest, locked := none }) _
  jvm_step X₁.here [X₁.here.top, hexec, d3', Value.category]
  exact X₁.ldcStringW hexec (own := own) (text := text) (index := is) (a := sa) hown' hstr'.1 hstr'.2
    (g := { method := m, pc := pc + 4, locals := ls, stack := .ref T.heap.size :: .ref T.heap.size :: rest, locked := none }) rfl d4' _ hsteps
end Ends
section Bodies
variable {l : Launch}
theorem vx_ofW {y : MethodName} {ws ws' : List Cond} {rm : Room} {Pc : Array Value → State → Prop} {Qc : Array Value → State → Outcome → State → Prop} {XC : String → State → State → Prop} {mc ms : Nat} {free : Addr → Prop} {cc : ByteArray} {maxL : Nat} {ret : Option FieldType}
    (hy : plainName y.cls = true) (hw : ws = Cond.code y cc maxL ret :: ws')
    (body : ∀ p e s m args below meth c s₁, BodyLoose p l y (headSpec ws rm) cc maxL ret e s m args below meth c s₁ → c.maxLocals = maxL → (∀ x ∈ c.exceptionTable.toList, False) → Pc args s →
      W p l e (headSpec ws rm).room s m args below meth c s.heap [] 0 0 (vx_MQ below Qc XC args s mc ms free) (entryFrame m args maxL)) : vx_Met l y ws rm Pc Qc XC mc ms free := by
  refine MetFree.of_bodyS (code := cc) (maxLocals := maxL) (ret := ret) hy ?_ ?_
  · intro args s m h hn
    obtain ⟨meth, c, h1, h2, h3, h4, h5, h6, -, -⟩ := Cond.code_spec hn (atoms_spec (ws := ws) h _ (by rw [hw]; exact List.mem_cons_self))
    exact ⟨meth, c, h1, h2, h3, h4, h5, h6⟩
  · intro p e s m args below meth c s₁ B hml hP _
    have hh0 : s₁.heap = s.heap := by rw [B.state]; rfl
    have ht : ∀ x ∈ c.exceptionTable.toList, False := by
      obtain ⟨meth9, c9, h1, h2, -, -, -, -, h7, -⟩ := Cond.code_spec B.named (atoms_spec (ws := ws) B.pre _ (by rw [hw]; exact List.mem_cons_self))
      cases Option.some.inj (h1.symm.trans B.method)
      cases Option.some.inj (h2.symm.trans (Stand.of_body B).code)
      intro x hx
      rw [Array.isEmpty_iff.mp h7] at hx
      cases hx
    obtain ⟨t, a1, o, b1, b2, b3⟩ := body p e s m args below meth c s₁ B hml ht hP s₁ hh0 (Stand.of_body B)
    exact ⟨t, o, a1, b1, b2, b3⟩
/-- the table of a body with handlers -/
theorem vx_table {p : Program} {x y : MethodName} {S : Spec} {cc bytes : ByteArray} {maxL maxL' : Nat} {ret ret' : Option FieldType} {e : Env} {s s₁ : State} {m : MethodId} {args : Array Value} {below : List Frame} {meth : Method} {c : Code} {hh : List (Nat × Nat × Nat × Nat)}
    (B : BodyLoose p l y S cc maxL ret e s m args below meth c s₁) (h : (Cond.codeWith y bytes maxL' ret' hh).before args s = true) : c.exceptionTable.toList = tableOf hh := by
  obtain ⟨m9, meth9, c9, hn9, h1, h2, -, -, h6, -⟩ := Cond.codeWith_spec h
  cases Option.some.inj (hn9.symm.trans B.named)
  cases Option.some.inj (h1.symm.trans B.method)
  cases Option.some.inj (h2.symm.trans (Stand.of_body B).code)
  rw [← h6, table_eq]
end Bodies
end VXA
/-! ===== END ===== -/
/-! ===== BEGIN a static call of a method with an exception table ===== -/
section VXS
variable {p : Program} {l : Launch} {e : Env} {R : Room} {s : State} {m : MethodId} {args : Array Value} {below : List Frame} {meth : Method} {c : Code} {T : State} {H : Heap} {locs : List Loc} {cells slots : Nat}
abbrev vx_CSW (R : Room) (s : State) (args : Array Value) (own : String) (index : Nat) (y : MethodName) (bytes : ByteArray) (maxL : Nat) (ret : Option FieldType) (hh : List (Nat × Nat × Nat × Nat)) (ws : List Cond) (rm : Room) (mc ms n : Nat) : Prop :=
  (rm.cells = mc ∧ rm.slots = ms ∧ rm.frames + 1 ≤ R.frames ∧ 8 + (maxL + 11) + rm.locals ≤ R.locals ∧ (∀ w ∈ ws, ∀ (a' : Array Value) (U : State), s.WarmedH U.vm → w.before a' U = true) ∧ Cond.codeWith y bytes maxL ret hh ∈ ws) ∧
  (Cond.codeWith y bytes maxL ret hh).before args s = true ∧ (Cond.initialized y.cls).before args s = true ∧ (y.cls ≠ "java/lang/invoke/MethodHandle" ∧ y.cls ≠ "java/lang/invoke/VarHandle") ∧
  (∀ sig, parseMethodDescriptor y.desc = some sig → n = sig.parameters.length) ∧ (Cond.methodLink own index y).before args s = true ∧ (Cond.static y).before args s = true
theorem vx_cwSW {own : String} {index maxL mc ms : Nat} {y : MethodName} {bytes : ByteArray} {ret : Option FieldType} {hh : List (Nat × Nat × Nat × Nat)} {Ts ws ws' : List Cond} {rm : Room} (n : Nat) (ht : ∀ w ∈ Ts, w.before args s = true) (hT : GoodIn Ts (va_wsS own index y ws)) (hw : ws = Cond.codeWith y bytes maxL ret hh :: ws') (hrc : rm.cells = mc) (hrs : rm.slots = ms)
    (hd : y.cls ≠ "java/lang/invoke/MethodHandle" ∧ y.cls ≠ "java/lang/invoke/VarHandle" ∧ (parseMethodDescriptor y.desc).map (fun d => d.parameters.length) = some n) (hR : rm.frames + 1 ≤ R.frames ∧ 8 + (maxL + 11) + rm.locals ≤ R.locals) :
    vx_CSW R s args own index y bytes maxL ret hh ws rm mc ms n := by
  have ok : ∀ w ∈ va_wsS own index y ws, w.before args s = true := fun w h => ht w (hT w h).1
  have hG : GoodIn Ts ws := fun w h => hT w (by unfold va_wsS; exact List.mem_append_right _ h)
  have hc : Cond.codeWith y bytes maxL ret hh ∈ ws := by rw [hw]; exact List.mem_cons_self
  refine ⟨⟨hrc, hrs, hR.1, hR.2, pay_in ht hG, hc⟩, ht _ (hG _ hc).1, ok _ (by simp [va_wsS]), ⟨hd.1, hd.2.1⟩, fun sig h => ?_, ok _ (by simp [va_wsS]), ok _ (by simp [va_wsS])⟩
  have h2 := hd.2.2
  rw [h] at h2
  exact (Option.some.inj h2).symm
theorem vx_callSW (X : Stand p l e R s m args below meth c T locs cells slots) (hexec : p.tables.exec = Jvm.exec) {own : String} {index : Nat} {y : MethodName} {bytes : ByteArray} {maxL : Nat} {ret : Option FieldType} {hh : List (Nat × Nat × Nat × Nat)}
    (hown : s.vm.findClass own = some m.cls) (hlink : (Cond.methodLink own index y).before args s = true) (hstat : (Cond.static y).before args s = true) (hinit : (Cond.initialized y.cls).before args s = true)
    (hcode : (Cond.codeWith y bytes maxL ret hh).before args s = true) (hy : y.cls ≠ "java/lang/invoke/MethodHandle" ∧ y.cls ≠ "java/lang/invoke/VarHandle")
    {W9 : Nat} {Pre : Pt → Array Value → Prop} {Post : Pt → Array Value → Option Value → Pt → Prop} (hK : Back l R p e below s args y 3 W9 Pre Post)
    {g : JFrame} (hg : g.method = m) (hsize : g.locals.size = c.maxLocals) {argsL rest : List Value} (hlen : ∀ sig, parseMethodDescriptor y.desc = some sig → argsL.length = sig.parameters.length)
    (hstack : g.stack = argsL.reverse ++ rest) (hW : 2 * g.monitorRoom + (rest.map fun v => v.category).sum ≤ W9) (hdg : decode c.code g.pc = .ok (.invokestatic index, 3))
    (hpre : ∀ vm₁, s.WarmedH vm₁ → Pre ⟨T.setVm vm₁, locs, cells, slots⟩ argsL.toArray) :
    ∃ (v : Option Value) (vm₁ : Vm) (B : Pt), s.WarmedH vm₁ ∧ Stand p l e R s m args below meth c B.U B.locs B.cells B.slots ∧ Post ⟨T.setVm vm₁, locs, cells, slots⟩ argsL.toArray v B ∧
      ∀ target, Steps p.tables e below (B.U.setTop { g with pc := g.pc + 3, stack := v.toList ++ rest }) target → Steps p.tables e below (T.setTop g) target := by
  obtain ⟨mk, methM, cM, hnamed, hmethM, -, -, -, -, -, -, hsigM⟩ := Cond.codeWith_spec hcode
  have hstatic : methM.isStatic = true := Cond.static_spec hnamed hmethM hstat
  obtain ⟨kP, hkP, -⟩ := className_of_methodNamed hnamed
  have hinitP : kP.init = .initialized := Cond.initialized_spec (findClass_of_methodNamed hnamed) hkP hinit
  obtain ⟨vm₁, X₁, hstep₁⟩ := X.invokestatic hexec hown hlink hnamed hmethM hstatic hkP hinitP hy (g := g) hg (argsL := argsL) (rest := rest) (hlen _ hsigM) hstack hdg
  obtain ⟨v, B, X', hpost, hsteps⟩ := hK m meth c ⟨T.setVm vm₁, locs, cells, slots⟩ { g with stack := rest } (.invokestatic index) mk argsL.toArray X₁ hg hsize hdg hW (X₁.named hnamed) (hpre vm₁ X₁.warmed)
  exact ⟨v, vm₁, B, X₁.warmed, X', hpost, fun target h => hstep₁ _ fun acts => by rw [doInvoke_state]; exact hsteps.trans h⟩
theorem vx_runSW {y : MethodName} {bytes cc : ByteArray} {maxL nL mc ms n index : Nat} {ret : Option FieldType} {hh : List (Nat × Nat × Nat × Nat)} {ws : List Cond} {rm : Room} {Pc : Array Value → State → Prop} {Qc : Array Value → State → Outcome → State → Prop} {free : Addr → Prop} {Ts : List Cond} {own : String} {As rest : List Value} {g : JFrame}
    (S : CallFix p m c cc nL s args Ts own) (hM : Met l y ws rm Pc Qc mc ms free) (cw : vx_CSW R s args own index y bytes maxL ret hh ws rm mc ms n) (hp : PreS s H Pc As)
    (hg : g.method = m) (hn : As.length = n) (hsize : g.locals.size = nL) (hstack : g.stack = As.reverse ++ rest) (hW : 2 * g.monitorRoom + (rest.map fun v => v.category).sum ≤ 8) (hdg : decode cc g.pc = .ok (.invokestatic index, 3)) (hf : cells + mc ≤ R.cells ∧ slots + ms ≤ R.slots) :
    va_Run p l e R s m args below meth c H locs cells slots mc ms g rest (Qc As.toArray) (free) := by
  obtain ⟨⟨hrc, hrs, hfr, hlo, hws, hcw⟩, hcode, hini, hy, hlen, hl, hstt⟩ := cw
  have hK : Back l R p e below s args y 3 8 (PreOf R mc ms Pc) (PostOf Qc mc ms free) := va_backW (hh := hh) (bytes := bytes) (maxL := maxL) (ret := ret) hM hp.1 hrc hrs hfr hlo hws hcw (fun a' U hW => word_at hW (Or.inl (by first | rfl | simp [Cond.onTables, Cond.keeps, Cond.steady])) hini)
  obtain ⟨hx, hb, hml, ho, -⟩ := S
  intro T hT X
  obtain ⟨v, vm₁, ⟨U', l2, c2, s2⟩, hW₁, X', ⟨g', mk, t, L, e1, e2, hq, h1, hL, h2, h3⟩, st⟩ := vx_callSW X hx (hh := hh) (bytes := bytes) (maxL := maxL) (ret := ret) ho hl hstt hini hcode hy hK hg (hsize.trans hml.symm) (argsL := As) (rest := rest) (fun sig h => hn.trans (hlen sig h)) hstack hW (by rw [hb]; exact hdg)
    (fun vm₁ hW₁ => ⟨hf.1, hf.2, hp.2 (T.setVm vm₁) hT hW₁⟩)
  dsimp only [Pt.U, Pt.locs, Pt.cells, Pt.slots] at X' e1 e2 h1 h2 h3 st
  subst h1; subst h2; subst h3
  exact ⟨v, (T.setVm vm₁).calling g' mk As.toArray, t, U', L, hT, X', hL, e1, e2, hq, st⟩
/-- not caught here, past rows that name other classes: it goes on to the caller -/
theorem vx_outP {p : Program} {l : Launch} {e : Env} {R : Room} {s : State} {m : MethodId} {args : Array Value} {below : List Frame} {meth : Method} {c : Code} {H : Heap} {locs : List Loc} {cells slots : Nat} {free : Addr → Prop} {ls : Array Slot} {rest : List Value} {Qc : Array Value → State → Outcome → State → Prop} {XC : String → State → State → Prop}
    {pc : Nat} {own E : String} {ce : Cell} {q : Addr} {mc ms : Nat} (hown : s.vm.findClass own = some m.cls) (hlocks : meth.locks = false)
    (hpass : ∀ z ∈ c.exceptionTable.toList, covers z pc = false ∨ (z.catchType ≠ 0 ∧ ∃ nm : String, (Cond.classLink own z.catchType nm).before args s = true ∧ va_Nc E nm s)) (hcell : H[q]? = some ce) (hv : ce.vm = .none) (hcl : s.vm.findClass E = some ce.cls)
    (hx : ∀ t : State, t.heap = H → s.vm.Alike t.vm → XC E s t) (hf : ∀ z ∈ locs, free z.base) (hc : cells ≤ mc) (hs : slots ≤ ms) :
    vx_W p l e R s m args below meth c H locs cells slots (vx_MQ below Qc XC args s mc ms free) (F0 m pc ls rest) q := by
  intro T hT X
  have hpl : e.platform.magicAccessors = ({} : Platform).magicAccessors := by rw [X.admits.platform]
  obtain ⟨vm', hW', X', st⟩ := X.outThrough hlocks q (g := F0 m pc ls rest) rfl rfl rfl (cell := ce) (by rw [hT]; exact hcell) (by rw [hv]; rfl)
    (by obtain ⟨k9, h9, -⟩ := Vm.findClass_spec hcl; exact ⟨k9, h9⟩) (fun z hz => by
      rcases hpass z hz with h | ⟨hz0, nm, hl1, hn1⟩
      · exact Or.inl h
      · obtain ⟨c6, hc6, hcl6⟩ := Cond.classLink_spec hown hl1 e.platform hpl
        obtain ⟨a8, b8, h1, h2, h3⟩ := hn1
        cases Option.some.inj (h1.symm.trans hcl)
        cases Option.some.inj (h2.symm.trans hc6)
        exact Or.inr ⟨hz0, _, hcl6, h3⟩)
  obtain ⟨g₀, hfr⟩ := X'.frames_eq
  have hcell9 : ((T.setVm vm').setFrames (.throwing q :: below)).heap[q]? = some ce := by
    show T.heap[q]? = some ce
    rw [hT]; exact hcell
  have hend : Ended ((T.setVm vm').setFrames (.throwing q :: below)) below (.threw q) := State.frames_setFrames _ (State.cur_lt_of_frames hfr)
  refine ⟨(T.setVm vm').setFrames (.throwing q :: below), ?_, .threw q, X'.here.running, hend, Or.inr ⟨q, rfl, E, ce, locs, hx _ hT (X'.ends _).1.alike, hcell9, hv, hcl, (X'.ends _).1, (X'.ends _).2.mono hc hs, hf⟩⟩
  rw [X.pushThrowing_eq]
  exact st
/-- a thing of a world lies in the heap -/
theorem vx_lt {D : va_G} {cl : List vw_C} {ws : va_W} {H1 : Heap} (h : va_P D cl ws H1) {k : Nat} {q : Nat × va_E} (hk : ws[k]? = some q) : q.1 < H1.size := (h k q hk).lt
end VXS
/-! ===== END ===== -/
/-! ===== BEGIN methods with a table of their own: called by a name, returning or throwing ===== -/
section VXH
/-! vx_backW, vx_callVX, vx_callSX, vx_callVW, vx_runVW, vx_runVX, vx_runSX, vx_ofWH follow the same proofs as their sisters above (Free/Laws.lean, Shelf42/LK1.lean); vx_outP calls Shelf42/NT130.lean (outThrough). -/
section
variable {l : Launch} {R : Room} {p : Program} {e : Env} {below : List Frame} {s : State} {sargs : Array Value} {y : MethodName} {len W9 : Nat}
theorem vx_backW {ws : List Cond} {rm : Room} {Pc : Array Value → State → Prop} {Qc : Array Value → State → Outcome → State → Prop} {XC : String → State → State → Prop} {mc ms : Nat} {free : Addr → Prop} {bytes : ByteArray} {maxL : Nat} {ret : Option FieldType} {hh : List (Nat × Nat × Nat × Nat)}
    (hM : vx_Met l y ws rm Pc Qc XC mc ms free) (hblind : FrameBlind Pc) (hrc : rm.cells = mc) (hrs : rm.slots = ms)
    (hframes : rm.frames + 1 ≤ R.frames) (hlocals : W9 + (maxL + 11) + rm.locals ≤ R.locals)
    (hws : ∀ w ∈ ws, ∀ a' U, s.WarmedH U.vm → w.before a' U = true) (hcode : Cond.codeWith y bytes maxL ret hh ∈ ws) (hinit : ∀ a' U, s.WarmedH U.vm → (Cond.initialized y.cls).before a' U = true) :
    vx_Back l R p e below s sargs y len W9 (PreOf R mc ms Pc) (PostOf Qc mc ms free) (vx_Post XC mc ms free) := by
  intro m meth c A g ig mk a X hg hsize hdg hW hn hp
  have h1 : (headSpec ws rm).pre.before a A.U = true := atoms_intro fun w hw => hws w hw _ _ X.warmed
  have h2 : (Cond.codeWith y bytes maxL ret hh).before a A.U = true := hws _ hcode _ _ X.warmed
  have h3 : (Cond.initialized y.cls).before a A.U = true := hinit _ _ X.warmed
  have h4 : A.cells + (headSpec ws rm).room.cells ≤ R.cells := by rw [show (headSpec ws rm).room.cells = mc from hrc]; exact hp.1
  have h5 : A.slots + (headSpec ws rm).room.slots ≤ R.slots := by rw [show (headSpec ws rm).room.slots = ms from hrs]; exact hp.2.1
  have hPc : Pc a (A.U.calling g mk a) := hblind _ _ _ _ hp.2.2
  obtain ⟨U, Ls, c0, s0⟩ := A
  dsimp only [Pt.U, Pt.locs, Pt.cells, Pt.slots] at h1 h2 h3 h4 h5 X hn hPc ⊢
  obtain ⟨m9, methY, cY, hn9, hmY, hcY, -, hlY, -⟩ := Cond.codeWith_spec h2
  cases Option.some.inj (hn9.symm.trans hn)
  obtain ⟨kY, hkY, -⟩ := className_of_methodNamed hn
  have hinitY : kY.init = .initialized := Cond.initialized_spec (findClass_of_methodNamed hn) hkY h3
  have h : At U g.method c below := by rw [hg]; exact X.here
  have hlocals9 : W9 + (maxL + 11) + (headSpec ws rm).room.locals ≤ R.locals := hlocals
  have happ : (headSpec ws rm).appliesLoose y e.platform (U.calling g mk a) = true :=
    Spec.appliesLoose_calling (g := g) h hdg hn hkY hinitY
      (X.room_calling (g := g) (R' := (headSpec ws rm).room) hsize hmY hcY hframes (by rw [hlY]; omega) h4 h5) h1
  obtain ⟨mid, hmid⟩ := h.above
  have hfr : (U.setTop g).frames = (.java g :: mid) ++ below := by rw [State.frames_setTop' g h.top, hmid]; rfl
  obtain ⟨o, s₂, hsteps, -, hend, hq⟩ := Steps.callFree hM p X.admits X.cas X.clock (acts := []) hfr happ hPc trivial
  have hq' : vx_Q Qc XC mc ms free a (U.calling g mk a) o s₂ := hq
  rw [State.frames_setTop' g h.top] at hend
  obtain ⟨g₀, hg0⟩ := Option.isSome_iff_exists.mp h.top
  obtain ⟨r, hr⟩ := State.topJava?_eq_some.mp hg0
  have hr' : (({ U with heap := s₂.heap, slotsUsed := s₂.slotsUsed } : State).setVm s₂.vm).frames = .java g₀ :: r := hr
  rcases hq' with ⟨hqc, L, hfe, hL⟩ | ⟨q, rfl, E, ce, L, hx, hce, hcv, hcl, hW₂, hsm, hL⟩
  · obtain ⟨⟨v, rfl⟩, hW₂, e2, q2, q3, q4, q5, q6⟩ := id hfe
    have e3 : s₂ = ({ (U.calling g mk a).setFrames s₂.frames with heap := s₂.heap, slotsUsed := s₂.slotsUsed } : State).setVm s₂.vm := by
      have : s₂ = ({ s₂ with vm := (U.calling g mk a).vm } : State).setVm s₂.vm := rfl
      rw [e2] at this
      exact this
    obtain ⟨c₂, i₂, len₂, hc₂, hd₂, hf₂⟩ := hend
    have hW' : U.WarmedH s₂.vm := hW₂
    have hcc : c₂ = c := by
      have h1 : s₂.code? g.method = U.code? g.method := by
        rw [State.code?_eq, State.code?_eq, hW'.alike.method?]
      exact Option.some.inj (hc₂.symm.trans (h1.trans h.code))
    subst hcc
    have hlen : len₂ = len := by rw [hdg] at hd₂; cases hd₂; rfl
    subst hlen
    have hs₂ : s₂ = (({ U with heap := s₂.heap, slotsUsed := s₂.slotsUsed } : State).setVm s₂.vm).setTop { g with pc := g.pc + len₂, stack := v.toList ++ g.stack } := by
      refine e3.trans ?_
      rw [hf₂, State.calling_eq h.top, State.setFrames_setFrames, State.setTop_of_frames _ hr', hr]
      rfl
    have hsame : U.sameButNew ({ U with heap := s₂.heap, slotsUsed := s₂.slotsUsed } : State) L mc ms := by
      refine ⟨?_, q2, q3, q4, q5, q6⟩
      obtain ⟨t, ht, -⟩ := State.frames_cons hr
      show ({ U with heap := s₂.heap, slotsUsed := s₂.slotsUsed } : State) = { U.setFrames U.frames with heap := s₂.heap, slotsUsed := s₂.slotsUsed }
      rw [State.setFrames_self ht]
    subst hg
    refine Or.inl ⟨v, ⟨(({ U with heap := s₂.heap, slotsUsed := s₂.slotsUsed } : State).setVm s₂.vm), Ls ++ L, c0 + mc, s0 + ms⟩,
      ⟨X.admits, X.cas, X.clock, X.frames, X.room, X.hears, X.method, X.code, (X.here.setHeapUsed s₂.heap s₂.slotsUsed).setVm hW'.alike, X.tail, State.WarmedH.trans X.warmed hW', X.limits, X.bytes, X.same.trans (hsame.setVm s.vm)⟩,
      ⟨g, mk, s₂, L, rfl, rfl, hqc, rfl, hL, rfl, rfl⟩, ?_⟩
    show Steps p.tables e below _ ((({ U with heap := s₂.heap, slotsUsed := s₂.slotsUsed } : State).setVm s₂.vm).setTop { g with pc := g.pc + len₂, stack := v.toList ++ g.stack })
    rw [← hs₂]
    exact hsteps
  · obtain ⟨e2, q2, q3, q4, q5, q6⟩ := id hsm
    have e3 : s₂ = ({ (U.calling g mk a).setFrames s₂.frames with heap := s₂.heap, slotsUsed := s₂.slotsUsed } : State).setVm s₂.vm := by
      have : s₂ = ({ s₂ with vm := (U.calling g mk a).vm } : State).setVm s₂.vm := rfl
      rw [e2] at this
      exact this
    have hf₂ : s₂.frames = .throwing q :: .java g :: U.frames.tail := hend
    have hW' : U.WarmedH s₂.vm := hW₂
    have hs₂ : s₂ = ((({ U with heap := s₂.heap, slotsUsed := s₂.slotsUsed } : State).setVm s₂.vm).setTop g).pushFrame (.throwing q) := by
      refine e3.trans ?_
      rw [hf₂, State.calling_eq h.top, State.setFrames_setFrames, State.pushFrame, State.frames_setTop _ hr', State.setTop_of_frames _ hr', State.setFrames_setFrames, hr]
      rfl
    have hsame : U.sameButNew ({ U with heap := s₂.heap, slotsUsed := s₂.slotsUsed } : State) L mc ms := by
      refine ⟨?_, q2, q3, q4, q5, q6⟩
      obtain ⟨t, ht, -⟩ := State.frames_cons hr
      show ({ U with heap := s₂.heap, slotsUsed := s₂.slotsUsed } : State) = { U.setFrames U.frames with heap := s₂.heap, slotsUsed := s₂.slotsUsed }
      rw [State.setFrames_self ht]
    subst hg
    refine Or.inr ⟨q, ⟨(({ U with heap := s₂.heap, slotsUsed := s₂.slotsUsed } : State).setVm s₂.vm), Ls ++ L, c0 + mc, s0 + ms⟩,
      ⟨X.admits, X.cas, X.clock, X.frames, X.room, X.hears, X.method, X.code, (X.here.setHeapUsed s₂.heap s₂.slotsUsed).setVm hW'.alike, X.tail, State.WarmedH.trans X.warmed hW', X.limits, X.bytes, X.same.trans (hsame.setVm s.vm)⟩,
      ⟨g, mk, s₂, L, E, ce, rfl, rfl, hx, hce, hcv, hcl, rfl, hL, rfl, rfl⟩, ?_⟩
    show Steps p.tables e below _ (((({ U with heap := s₂.heap, slotsUsed := s₂.slotsUsed } : State).setVm s₂.vm).setTop g).pushFrame (.throwing q))
    rw [← hs₂]
    exact hsteps
end
variable {p : Program} {l : Launch} {e : Env} {R : Room} {s : State} {m : MethodId} {args : Array Value} {below : List Frame} {meth : Method} {c : Code} {T : State} {H : Heap} {locs : List Loc} {cells slots : Nat}
theorem vx_callVX (X : Stand p l e R s m args below meth c T locs cells slots) (hexec : p.tables.exec = Jvm.exec) {own C : String} {index : Nat} {y : MethodName} {bytes : ByteArray} {maxL : Nat} {ret : Option FieldType} {hh : List (Nat × Nat × Nat × Nat)}
    (hown : s.vm.findClass own = some m.cls) (hlink : (Cond.methodLink own index y).before args s = true) (hinst : (Cond.instanceMethod y).before args s = true) (hsel : (Cond.selects C y y).before args s = true)
    (hcode : (Cond.codeWith y bytes maxL ret hh).before args s = true) (hy : y.cls ≠ "java/lang/invoke/MethodHandle" ∧ y.cls ≠ "java/lang/invoke/VarHandle")
    {W9 : Nat} {Pre : Pt → Array Value → Prop} {Post : Pt → Array Value → Option Value → Pt → Prop} {PostX : Pt → Array Value → Addr → Pt → Prop} (hK : vx_Back l R p e below s args y 3 W9 Pre Post PostX)
    {b : Addr} {cellB : Cell} (hcell : T.heap[b]? = some cellB) (hobj : cellB.vm.isStatics = false) (hcls : s.vm.findClass C = some cellB.cls)
    {g : JFrame} (hg : g.method = m) (hsize : g.locals.size = c.maxLocals) {argsL rest : List Value} (hlen : ∀ sig, parseMethodDescriptor y.desc = some sig → argsL.length = sig.parameters.length)
    (hstack : g.stack = argsL.reverse ++ .ref b :: rest) (hW : 2 * g.monitorRoom + (rest.map fun v => v.category).sum ≤ W9) (hdg : decode c.code g.pc = .ok (.invokevirtual index, 3))
    (hpre : ∀ vm₁, s.WarmedH vm₁ → Pre ⟨T.setVm vm₁, locs, cells, slots⟩ (Value.ref b :: argsL).toArray) :
    (∃ (v : Option Value) (vm₁ : Vm) (B : Pt), s.WarmedH vm₁ ∧ Stand p l e R s m args below meth c B.U B.locs B.cells B.slots ∧ Post ⟨T.setVm vm₁, locs, cells, slots⟩ (Value.ref b :: argsL).toArray v B ∧
      ∀ target, Steps p.tables e below (B.U.setTop { g with pc := g.pc + 3, stack := v.toList ++ rest }) target → Steps p.tables e below (T.setTop g) target) ∨
    (∃ (q : Addr) (vm₁ : Vm) (B : Pt), s.WarmedH vm₁ ∧ Stand p l e R s m args below meth c B.U B.locs B.cells B.slots ∧ PostX ⟨T.setVm vm₁, locs, cells, slots⟩ (Value.ref b :: argsL).toArray q B ∧
      Steps p.tables e below (T.setTop g) ((B.U.setTop { g with stack := rest }).pushFrame (.throwing q))) := by
  obtain ⟨mk, methM, hnamed, hmethM, hstM, habM⟩ := Cond.instanceMethod_spec hinst
  obtain ⟨m8, methM', cM, hn8, hmethM', -, -, -, -, -, -, hsigM⟩ := Cond.codeWith_spec hcode
  cases Option.some.inj (hn8.symm.trans hnamed)
  cases hmethM.symm.trans hmethM'
  obtain ⟨c2, r2, m2, q1, q2, q3, q4, kP, hkP, hkPi⟩ := Cond.selects_spec hsel
  cases hcls.symm.trans q1
  cases (State.methodFound?_of_named hnamed hy).symm.trans q2
  cases hnamed.symm.trans q3
  have hselP : selectMethod e.platform s.vm cellB.cls mk = .method mk := by rw [Launch.admits_selectMethod X.admits]; exact q4
  obtain ⟨vm₁, X₁, hstep₁⟩ := X.invokevirtual hexec hown hlink hnamed hmethM hstM hkP hkPi hy (a := b) (cell := cellB) hcell
    (fun z h => by rw [h] at hobj; cases hobj) hselP hmethM habM hkP hkPi (g := g) hg (argsL := argsL) (rest := rest) (hlen _ hsigM) hstack hdg
  rcases hK m meth c ⟨T.setVm vm₁, locs, cells, slots⟩ { g with stack := rest } (.invokevirtual index) mk (Value.ref b :: argsL).toArray X₁ hg hsize hdg hW (X₁.named hnamed) (hpre vm₁ X₁.warmed) with ⟨v, B, X', hpost, hsteps⟩ | ⟨q, B, X', hpost, hsteps⟩
  · exact Or.inl ⟨v, vm₁, B, X₁.warmed, X', hpost, fun target h => hstep₁ _ fun acts => by rw [doInvoke_state]; exact hsteps.trans h⟩
  · exact Or.inr ⟨q, vm₁, B, X₁.warmed, X', hpost, hstep₁ _ fun acts => by rw [doInvoke_state]; exact hsteps⟩
theorem vx_callSX (X : Stand p l e R s m args below meth c T locs cells slots) (hexec : p.tables.exec = Jvm.exec) {own : String} {index : Nat} {y : MethodName} {bytes : ByteArray} {maxL : Nat} {ret : Option FieldType} {hh : List (Nat × Nat × Nat × Nat)}
    (hown : s.vm.findClass own = some m.cls) (hlink : (Cond.methodLink own index y).before args s = true) (hstat : (Cond.static y).before args s = true) (hinit : (Cond.initialized y.cls).before args s = true)
    (hcode : (Cond.codeWith y bytes maxL ret hh).before args s = true) (hy : y.cls ≠ "java/lang/invoke/MethodHandle" ∧ y.cls ≠ "java/lang/invoke/VarHandle")
    {W9 : Nat} {Pre : Pt → Array Value → Prop} {Post : Pt → Array Value → Option Value → Pt → Prop} {PostX : Pt → Array Value → Addr → Pt → Prop} (hK : vx_Back l R p e below s args y 3 W9 Pre Post PostX)
    {g : JFrame} (hg : g.method = m) (hsize : g.locals.size = c.maxLocals) {argsL rest : List Value} (hlen : ∀ sig, parseMethodDescriptor y.desc = some sig → argsL.length = sig.parameters.length)
    (hstack : g.stack = argsL.reverse ++ rest) (hW : 2 * g.monitorRoom + (rest.map fun v => v.category).sum ≤ W9) (hdg : decode c.code g.pc = .ok (.invokestatic index, 3))
    (hpre : ∀ vm₁, s.WarmedH vm₁ → Pre ⟨T.setVm vm₁, locs, cells, slots⟩ argsL.toArray) :
    (∃ (v : Option Value) (vm₁ : Vm) (B : Pt), s.WarmedH vm₁ ∧ Stand p l e R s m args below meth c B.U B.locs B.cells B.slots ∧ Post ⟨T.setVm vm₁, locs, cells, slots⟩ argsL.toArray v B ∧
      ∀ target, Steps p.tables e below (B.U.setTop { g with pc := g.pc + 3, stack := v.toList ++ rest }) target → Steps p.tables e below (T.setTop g) target) ∨
    (∃ (q : Addr) (vm₁ : Vm) (B : Pt), s.WarmedH vm₁ ∧ Stand p l e R s m args below meth c B.U B.locs B.cells B.slots ∧ PostX ⟨T.setVm vm₁, locs, cells, slots⟩ argsL.toArray q B ∧
      Steps p.tables e below (T.setTop g) ((B.U.setTop { g with stack := rest }).pushFrame (.throwing q))) := by
  obtain ⟨mk, methM, cM, hnamed, hmethM, -, -, -, -, -, -, hsigM⟩ := Cond.codeWith_spec hcode
  have hstatic : methM.isStatic = true := Cond.static_spec hnamed hmethM hstat
  obtain ⟨kP, hkP, -⟩ := className_of_methodNamed hnamed
  have hinitP : kP.init = .initialized := Cond.initialized_spec (findClass_of_methodNamed hnamed) hkP hinit
  obtain ⟨vm₁, X₁, hstep₁⟩ := X.invokestatic hexec hown hlink hnamed hmethM hstatic hkP hinitP hy (g := g) hg (argsL := argsL) (rest := rest) (hlen _ hsigM) hstack hdg
  rcases hK m meth c ⟨T.setVm vm₁, locs, cells, slots⟩ { g with stack := rest } (.invokestatic index) mk argsL.toArray X₁ hg hsize hdg hW (X₁.named hnamed) (hpre vm₁ X₁.warmed) with ⟨v, B, X', hpost, hsteps⟩ | ⟨q, B, X', hpost, hsteps⟩
  · exact Or.inl ⟨v, vm₁, B, X₁.warmed, X', hpost, fun target h => hstep₁ _ fun acts => by rw [doInvoke_state]; exact hsteps.trans h⟩
  · exact Or.inr ⟨q, vm₁, B, X₁.warmed, X', hpost, hstep₁ _ fun acts => by rw [doInvoke_state]; exact hsteps⟩
theorem vx_callVW (X : Stand p l e R s m args below meth c T locs cells slots) (hexec : p.tables.exec = Jvm.exec) {own C : String} {index : Nat} {y : MethodName} {bytes : ByteArray} {maxL : Nat} {ret : Option FieldType} {hh : List (Nat × Nat × Nat × Nat)}
    (hown : s.vm.findClass own = some m.cls) (hlink : (Cond.methodLink own index y).before args s = true) (hinst : (Cond.instanceMethod y).before args s = true) (hsel : (Cond.selects C y y).before args s = true)
    (hcode : (Cond.codeWith y bytes maxL ret hh).before args s = true) (hy : y.cls ≠ "java/lang/invoke/MethodHandle" ∧ y.cls ≠ "java/lang/invoke/VarHandle")
    {W9 : Nat} {Pre : Pt → Array Value → Prop} {Post : Pt → Array Value → Option Value → Pt → Prop} (hK : Back l R p e below s args y 3 W9 Pre Post)
    {b : Addr} {cellB : Cell} (hcell : T.heap[b]? = some cellB) (hobj : cellB.vm.isStatics = false) (hcls : s.vm.findClass C = some cellB.cls)
    {g : JFrame} (hg : g.method = m) (hsize : g.locals.size = c.maxLocals) {argsL rest : List Value} (hlen : ∀ sig, parseMethodDescriptor y.desc = some sig → argsL.length = sig.parameters.length)
    (hstack : g.stack = argsL.reverse ++ .ref b :: rest) (hW : 2 * g.monitorRoom + (rest.map fun v => v.category).sum ≤ W9) (hdg : decode c.code g.pc = .ok (.invokevirtual index, 3))
    (hpre : ∀ vm₁, s.WarmedH vm₁ → Pre ⟨T.setVm vm₁, locs, cells, slots⟩ (Value.ref b :: argsL).toArray) :
    ∃ (v : Option Value) (vm₁ : Vm) (B : Pt), s.WarmedH vm₁ ∧ Stand p l e R s m args below meth c B.U B.locs B.cells B.slots ∧ Post ⟨T.setVm vm₁, locs, cells, slots⟩ (Value.ref b :: argsL).toArray v B ∧
      ∀ target, Steps p.tables e below (B.U.setTop { g with pc := g.pc + 3, stack := v.toList ++ rest }) target → Steps p.tables e below (T.setTop g) target := by
  obtain ⟨mk, methM, hnamed, hmethM, hstM, habM⟩ := Cond.instanceMethod_spec hinst
  obtain ⟨m8, methM', cM, hn8, hmethM', -, -, -, -, -, -, hsigM⟩ := Cond.codeWith_spec hcode
  cases Option.some.inj (hn8.symm.trans hnamed)
  cases hmethM.symm.trans hmethM'
  obtain ⟨c2, r2, m2, q1, q2, q3, q4, kP, hkP, hkPi⟩ := Cond.selects_spec hsel
  cases hcls.symm.trans q1
  cases (State.methodFound?_of_named hnamed hy).symm.trans q2
  cases hnamed.symm.trans q3
  have hselP : selectMethod e.platform s.vm cellB.cls mk = .method mk := by rw [Launch.admits_selectMethod X.admits]; exact q4
  obtain ⟨vm₁, X₁, hstep₁⟩ := X.invokevirtual hexec hown hlink hnamed hmethM hstM hkP hkPi hy (a := b) (cell := cellB) hcell
    (fun z h => by rw [h] at hobj; cases hobj) hselP hmethM habM hkP hkPi (g := g) hg (argsL := argsL) (rest := rest) (hlen _ hsigM) hstack hdg
  obtain ⟨v, B, X', hpost, hsteps⟩ := hK m meth c ⟨T.setVm vm₁, locs, cells, slots⟩ { g with stack := rest } (.invokevirtual index) mk (Value.ref b :: argsL).toArray X₁ hg hsize hdg hW (X₁.named hnamed) (hpre vm₁ X₁.warmed)
  exact ⟨v, vm₁, B, X₁.warmed, X', hpost, fun target h => hstep₁ _ fun acts => by rw [doInvoke_state]; exact hsteps.trans h⟩
abbrev vx_CVW (R : Room) (s : State) (args : Array Value) (own C : String) (index : Nat) (y : MethodName) (bytes : ByteArray) (maxL : Nat) (ret : Option FieldType) (hh : List (Nat × Nat × Nat × Nat)) (ws : List Cond) (rm : Room) (mc ms n : Nat) : Prop :=
  (rm.cells = mc ∧ rm.slots = ms ∧ rm.frames + 1 ≤ R.frames ∧ 8 + (maxL + 11) + rm.locals ≤ R.locals ∧ (∀ w ∈ ws, ∀ (a' : Array Value) (U : State), s.WarmedH U.vm → w.before a' U = true) ∧ Cond.codeWith y bytes maxL ret hh ∈ ws) ∧
  (Cond.codeWith y bytes maxL ret hh).before args s = true ∧ (Cond.initialized y.cls).before args s = true ∧ (y.cls ≠ "java/lang/invoke/MethodHandle" ∧ y.cls ≠ "java/lang/invoke/VarHandle") ∧
  (∀ sig, parseMethodDescriptor y.desc = some sig → n = sig.parameters.length) ∧ (Cond.methodLink own index y).before args s = true ∧ (Cond.instanceMethod y).before args s = true ∧ (Cond.selects C y y).before args s = true
theorem vx_cwVW {own C : String} {index maxL mc ms : Nat} {y : MethodName} {bytes : ByteArray} {ret : Option FieldType} {hh : List (Nat × Nat × Nat × Nat)} {Ts ws ws' : List Cond} {rm : Room} (n : Nat) (ht : ∀ w ∈ Ts, w.before args s = true) (hT : GoodIn Ts (wsV own index C y ws)) (hw : ws = Cond.codeWith y bytes maxL ret hh :: ws') (hrc : rm.cells = mc) (hrs : rm.slots = ms)
    (hd : y.cls = C ∧ y.cls ≠ "java/lang/invoke/MethodHandle" ∧ y.cls ≠ "java/lang/invoke/VarHandle" ∧ (parseMethodDescriptor y.desc).map (fun d => d.parameters.length) = some n) (hR : rm.frames + 1 ≤ R.frames ∧ 8 + (maxL + 11) + rm.locals ≤ R.locals) :
    vx_CVW R s args own C index y bytes maxL ret hh ws rm mc ms n := by
  obtain ⟨hC, hd⟩ := hd
  subst hC
  have ok : ∀ w ∈ wsV own index y.cls y ws, w.before args s = true := fun w h => ht w (hT w h).1
  have hG : GoodIn Ts ws := fun w h => hT w (by unfold wsV; exact List.mem_append_right _ h)
  have hc : Cond.codeWith y bytes maxL ret hh ∈ ws := by rw [hw]; exact List.mem_cons_self
  refine ⟨⟨hrc, hrs, hR.1, hR.2, pay_in ht hG, hc⟩, ht _ (hG _ hc).1, ok _ (by simp [wsV]), ⟨hd.1, hd.2.1⟩, fun sig h => ?_, ok _ (by simp [wsV]), ok _ (by simp [wsV]), ok _ (by simp [wsV])⟩
  have h2 := hd.2.2
  rw [h] at h2
  exact (Option.some.inj h2).symm
theorem vx_runVW {y : MethodName} {bytes cc : ByteArray} {maxL nL mc ms n index : Nat} {ret : Option FieldType} {hh : List (Nat × Nat × Nat × Nat)} {ws : List Cond} {rm : Room} {Pc : Array Value → State → Prop} {Qc : Array Value → State → Outcome → State → Prop} {free : Addr → Prop} {Ts : List Cond} {own C : String} {b : Addr} {As rest : List Value} {g : JFrame}
    (S : CallFix p m c cc nL s args Ts own) (hM : Met l y ws rm Pc Qc mc ms free) (cw : vx_CVW R s args own C index y bytes maxL ret hh ws rm mc ms n) (hp : PreV s H C b Pc As)
    (hg : g.method = m) (hn : As.length = n) (hsize : g.locals.size = nL) (hstack : g.stack = As.reverse ++ .ref b :: rest) (hW : 2 * g.monitorRoom + (rest.map fun v => v.category).sum ≤ 8) (hdg : decode cc g.pc = .ok (.invokevirtual index, 3)) (hf : cells + mc ≤ R.cells ∧ slots + ms ≤ R.slots) :
    va_Run p l e R s m args below meth c H locs cells slots mc ms g rest (Qc (Value.ref b :: As).toArray) free := by
  obtain ⟨⟨hrc, hrs, hfr, hlo, hws, hcw⟩, hcode, hini, hy, hlen, hl, hin, hse⟩ := cw
  have hK : Back l R p e below s args y 3 8 (PreOf R mc ms Pc) (PostOf Qc mc ms free) := va_backW (hh := hh) (bytes := bytes) (maxL := maxL) (ret := ret) hM hp.1 hrc hrs hfr hlo hws hcw (fun a' U hW => word_at hW (Or.inl (by first | rfl | simp [Cond.onTables, Cond.keeps, Cond.steady])) hini)
  obtain ⟨hx, hb, hml, ho, -⟩ := S
  obtain ⟨-, ⟨cellB, hcB, hoB, hclB⟩, hPc⟩ := hp
  intro T hT X
  obtain ⟨v, vm₁, ⟨U', l2, c2, s2⟩, hW₁, X', ⟨g', mk, t, L, e1, e2, hq, h1, hL, h2, h3⟩, st⟩ := vx_callVW X hx (C := C) (hh := hh) (bytes := bytes) (maxL := maxL) (ret := ret) ho hl hin hse hcode hy hK (by rw [hT]; exact hcB) hoB hclB hg (hsize.trans hml.symm) (argsL := As) (rest := rest) (fun sig h => hn.trans (hlen sig h)) hstack hW (by rw [hb]; exact hdg)
    (fun vm₁ hW₁ => ⟨hf.1, hf.2, hPc (T.setVm vm₁) hT hW₁⟩)
  dsimp only [Pt.U, Pt.locs, Pt.cells, Pt.slots] at X' e1 e2 h1 h2 h3 st
  subst h1; subst h2; subst h3
  exact ⟨v, (T.setVm vm₁).calling g' mk (Value.ref b :: As).toArray, t, U', L, hT, X', hL, e1, e2, hq, st⟩
section
variable {y : MethodName} {bytes cc : ByteArray} {maxL nL mc ms n index : Nat} {ret : Option FieldType} {ws : List Cond} {rm : Room} {Pc : Array Value → State → Prop} {Qc : Array Value → State → Outcome → State → Prop} {XC : String → State → State → Prop} {free : Addr → Prop} {Ts : List Cond} {own C : String} {b : Addr} {As rest : List Value} {g : JFrame}
theorem vx_runVX {hh : List (Nat × Nat × Nat × Nat)} (S : CallFix p m c cc nL s args Ts own) (hM : vx_Met l y ws rm Pc Qc XC mc ms free) (cw : vx_CVW R s args own C index y bytes maxL ret hh ws rm mc ms n) (hp : PreV s H C b Pc As)
    (hg : g.method = m) (hn : As.length = n) (hsize : g.locals.size = nL) (hstack : g.stack = As.reverse ++ .ref b :: rest) (hW : 2 * g.monitorRoom + (rest.map fun v => v.category).sum ≤ 8) (hdg : decode cc g.pc = .ok (.invokevirtual index, 3)) (hf : cells + mc ≤ R.cells ∧ slots + ms ≤ R.slots) :
    vx_Run p l e R s m args below meth c H locs cells slots mc ms g rest (Qc (Value.ref b :: As).toArray) XC free := by
  obtain ⟨⟨hrc, hrs, hfr, hlo, hws, hcw⟩, hcode, hini, hy, hlen, hl, hin, hse⟩ := cw
  have hK : vx_Back l R p e below s args y 3 8 (PreOf R mc ms Pc) (PostOf Qc mc ms free) (vx_Post XC mc ms free) := vx_backW (hh := hh) (bytes := bytes) (maxL := maxL) (ret := ret) hM hp.1 hrc hrs hfr hlo hws hcw (fun a' U hW => word_at hW (Or.inl (by first | rfl | simp [Cond.onTables, Cond.keeps, Cond.steady])) hini)
  obtain ⟨hx, hb, hml, ho, -⟩ := S
  obtain ⟨-, ⟨cellB, hcB, hoB, hclB⟩, hPc⟩ := hp
  intro T hT X
  rcases vx_callVX X hx (C := C) (hh := hh) (bytes := bytes) (maxL := maxL) (ret := ret) ho hl hin hse hcode hy hK (by rw [hT]; exact hcB) hoB hclB hg (hsize.trans hml.symm) (argsL := As) (rest := rest) (fun sig h => hn.trans (hlen sig h)) hstack hW (by rw [hb]; exact hdg)
    (fun vm₁ hW₁ => ⟨hf.1, hf.2, hPc (T.setVm vm₁) hT hW₁⟩) with ⟨v, vm₁, ⟨U', l2, c2, s2⟩, hW₁, X', ⟨g', mk, t, L, e1, e2, hq, h1, hL, h2, h3⟩, st⟩ | ⟨q, vm₁, ⟨U', l2, c2, s2⟩, hW₁, X', ⟨g', mk, t, L, E, ce, e1, e2, hq, hce, hcv, hcl, h1, hL, h2, h3⟩, st⟩
  · dsimp only [Pt.U, Pt.locs, Pt.cells, Pt.slots] at X' e1 e2 h1 h2 h3 st
    subst h1; subst h2; subst h3
    exact Or.inl ⟨v, (T.setVm vm₁).calling g' mk (Value.ref b :: As).toArray, t, U', L, hT, X', hL, e1, e2, hq, st⟩
  · dsimp only [Pt.U, Pt.locs, Pt.cells, Pt.slots] at X' e1 e2 h1 h2 h3 st hcl
    subst h1; subst h2; subst h3
    exact Or.inr ⟨q, (T.setVm vm₁).calling g' mk (Value.ref b :: As).toArray, t, U', L, E, ce, hT, X', hL, e1, e2, hq, hce, hcv, vx_cls hW₁ hcl, st⟩
theorem vx_runSX {hh : List (Nat × Nat × Nat × Nat)} (S : CallFix p m c cc nL s args Ts own) (hM : vx_Met l y ws rm Pc Qc XC mc ms free) (cw : vx_CSW R s args own index y bytes maxL ret hh ws rm mc ms n) (hp : PreS s H Pc As)
    (hg : g.method = m) (hn : As.length = n) (hsize : g.locals.size = nL) (hstack : g.stack = As.reverse ++ rest) (hW : 2 * g.monitorRoom + (rest.map fun v => v.category).sum ≤ 8) (hdg : decode cc g.pc = .ok (.invokestatic index, 3)) (hf : cells + mc ≤ R.cells ∧ slots + ms ≤ R.slots) :
    vx_Run p l e R s m args below meth c H locs cells slots mc ms g rest (Qc As.toArray) XC free := by
  obtain ⟨⟨hrc, hrs, hfr, hlo, hws, hcw⟩, hcode, hini, hy, hlen, hl, hstt⟩ := cw
  have hK : vx_Back l R p e below s args y 3 8 (PreOf R mc ms Pc) (PostOf Qc mc ms free) (vx_Post XC mc ms free) := vx_backW (hh := hh) (bytes := bytes) (maxL := maxL) (ret := ret) hM hp.1 hrc hrs hfr hlo hws hcw (fun a' U hW => word_at hW (Or.inl (by first | rfl | simp [Cond.onTables, Cond.keeps, Cond.steady])) hini)
  obtain ⟨hx, hb, hml, ho, -⟩ := S
  intro T hT X
  rcases vx_callSX X hx (hh := hh) (bytes := bytes) (maxL := maxL) (ret := ret) ho hl hstt hini hcode hy hK hg (hsize.trans hml.symm) (argsL := As) (rest := rest) (fun sig h => hn.trans (hlen sig h)) hstack hW (by rw [hb]; exact hdg)
    (fun vm₁ hW₁ => ⟨hf.1, hf.2, hp.2 (T.setVm vm₁) hT hW₁⟩) with ⟨v, vm₁, ⟨U', l2, c2, s2⟩, hW₁, X', ⟨g', mk, t, L, e1, e2, hq, h1, hL, h2, h3⟩, st⟩ | ⟨q, vm₁, ⟨U', l2, c2, s2⟩, hW₁, X', ⟨g', mk, t, L, E, ce, e1, e2, hq, hce, hcv, hcl, h1, hL, h2, h3⟩, st⟩
  · dsimp only [Pt.U, Pt.locs, Pt.cells, Pt.slots] at X' e1 e2 h1 h2 h3 st
    subst h1; subst h2; subst h3
    exact Or.inl ⟨v, (T.setVm vm₁).calling g' mk As.toArray, t, U', L, hT, X', hL, e1, e2, hq, st⟩
  · dsimp only [Pt.U, Pt.locs, Pt.cells, Pt.slots] at X' e1 e2 h1 h2 h3 st hcl
    subst h1; subst h2; subst h3
    exact Or.inr ⟨q, (T.setVm vm₁).calling g' mk As.toArray, t, U', L, E, ce, hT, X', hL, e1, e2, hq, hce, hcv, vx_cls hW₁ hcl, st⟩
end
end VXH
theorem vx_ofWH {l : Launch} {y : MethodName} {ws ws' : List Cond} {rm : Room} {Pc : Array Value → State → Prop} {Qc : Array Value → State → Outcome → State → Prop} {XC : String → State → State → Prop} {mc ms : Nat} {free : Addr → Prop} {cc : ByteArray} {maxL : Nat} {ret : Option FieldType} {hh : List (Nat × Nat × Nat × Nat)}
    (hy : plainName y.cls = true) (hw : ws = Cond.codeWith y cc maxL ret hh :: ws')
    (body : ∀ p e s m args below meth c s₁, BodyLoose p l y (headSpec ws rm) cc maxL ret e s m args below meth c s₁ → c.maxLocals = maxL → Pc args s →
      W p l e (headSpec ws rm).room s m args below meth c s.heap [] 0 0 (vx_MQ below Qc XC args s mc ms free) (entryFrame m args maxL)) : vx_Met l y ws rm Pc Qc XC mc ms free := by
  refine MetFree.of_bodyS (code := cc) (maxLocals := maxL) (ret := ret) hy ?_ ?_
  · intro args s m h hn
    obtain ⟨m9, meth, c, hn9, h1, h2, h3, h4, -, h5, h6, -⟩ := Cond.codeWith_spec (atoms_spec (ws := ws) h _ (by rw [hw]; exact List.mem_cons_self))
    cases hn.symm.trans hn9
    exact ⟨meth, c, h1, h2, h3, h4, h5, h6⟩
  · intro p e s m args below meth c s₁ B hml hP _
    have hh0 : s₁.heap = s.heap := by rw [B.state]; rfl
    obtain ⟨t, a1, o, b1, b2, b3⟩ := body p e s m args below meth c s₁ B hml hP s₁ hh0 (Stand.of_body B)
    exact ⟨t, o, a1, b1, b2, b3⟩
/-! ===== END ===== -/
end
section
/-! THE ABSTRACT MACHINE: decoded instructions over a heap of functions; addresses 0, 1, .. in the order of making; 1048576 + i: a string constant, 1048592 + i: its bytes, 1048608: the script -/
/-- (cells made, cells charged, slots charged, may make more), kinds, references, ints, longs -/
abbrev fl_H : Type := (Nat × Nat × Nat × Bool) × (Nat → Nat × Nat) × (Nat → Nat → Option Nat) × (Nat → Nat → Int32) × (Nat → Nat → Int64)
abbrev fl_L : Type := List (Option Value)
abbrev fl_O : Type := Option (Option Value) × fl_H
/-- instruction, length, a, b, c, d (resolved), place of its word, int constant, long constant, switch, what lives -/
abbrev fl_E : Type := Instr × Nat × Nat × Nat × Nat × Nat × Nat × Int32 × Int64 × List (Int32 × Nat) × Option (List Bool)
def fl_k (h : fl_H) : Nat → Nat × Nat := h.2.1
def fl_r (h : fl_H) : Nat → Nat → Option Nat := h.2.2.1
def fl_i (h : fl_H) : Nat → Nat → Int32 := h.2.2.2.1
def fl_l (h : fl_H) : Nat → Nat → Int64 := h.2.2.2.2
def fl_u {α : Type} (f : Nat → Nat → α) (a j : Nat) (x : α) : Nat → Nat → α := fun b k => if b = a ∧ k = j then x else f b k
def fl_si (h : fl_H) (a j : Nat) (x : Int32) : fl_H := (h.1, h.2.1, h.2.2.1, fl_u h.2.2.2.1 a j x, h.2.2.2.2)
def fl_sl (h : fl_H) (a j : Nat) (x : Int64) : fl_H := (h.1, h.2.1, h.2.2.1, h.2.2.2.1, fl_u h.2.2.2.2 a j x)
def fl_sr (h : fl_H) (a j : Nat) (x : Nat) : fl_H := (h.1, h.2.1, fl_u h.2.2.1 a j (some x), h.2.2.2.1, h.2.2.2.2)
/-- a new cell of a kind, n slots -/
def fl_mk (h : fl_H) (kd : Nat × Nat) (n : Nat) : fl_H := ((h.1.1 + 1, h.1.2.1 + 1, h.1.2.2.1 + n, h.1.2.2.2), (fun b => if b = h.1.1 then kd else h.2.1 b), (fun b k => if b = h.1.1 then none else h.2.2.1 b k), (fun b k => if b = h.1.1 then 0 else h.2.2.2.1 b k), (fun b k => if b = h.1.1 then 0 else h.2.2.2.2 b k))
/-- an exception was made -/
def fl_th (h : fl_H) : fl_H := ((h.1.1, h.1.2.1 + 1, h.1.2.2.1 + 6, false), h.2)
def fl_in (i : Int32) (n : Nat) : Bool := !(decide (i < 0) || decide (n ≤ i.toNatClampNeg))
def fl_get : fl_L → Nat → Option Value
  | [], _ => none
  | x :: _, 0 => x
  | _ :: l, n + 1 => fl_get l n
def fl_set : fl_L → Nat → Option Value → fl_L
  | [], 0, v => [v]
  | [], n + 1, v => none :: fl_set [] n v
  | _ :: l, 0, v => v :: l
  | x :: l, n + 1, v => x :: fl_set l n v
def fl_two : Option Value → Bool
  | some (.long _) => true
  | some (.double _) => true
  | _ => false
/-- no long stands just ahead of a place -/
def fl_nk (L : fl_L) : Nat → Bool
  | 0 => true
  | j + 1 => !(fl_two (fl_get L j))
def fl_mask : List Bool → fl_L → fl_L
  | b :: bs, v :: vs => (match b with | true => v | false => none) :: fl_mask bs vs
  | _, _ => []
def fl_args : List Value → fl_L
  | [] => []
  | v :: vs => match fl_two (some v) with
    | true => some v :: none :: fl_args vs
    | false => some v :: fl_args vs
def fl_cat : List Value → Nat
  | [] => 0
  | v :: vs => match fl_two (some v) with
    | true => fl_cat vs + 2
    | false => fl_cat vs + 1
/-- what a step comes to: next | a branch | a switch | a call | the end -/
abbrev fl_A : Type := (Nat × fl_L × List Value × fl_H) ⊕ (Bool × Nat × Nat × fl_L × List Value × fl_H) ⊕ (Int32 × List (Int32 × Nat) × Nat × fl_L × List Value × fl_H) ⊕ (Nat × List Value × Nat × fl_L × List Value × List (Int32 × Nat) × fl_H) ⊕ fl_O
def fl_nx (pc : Nat) (L : fl_L) (st : List Value) (h : fl_H) : Option (Bool × fl_A) := some (true, .inl (pc, L, st, h))
def fl_ng (g : Bool) (pc : Nat) (L : fl_L) (st : List Value) (h : fl_H) : Option (Bool × fl_A) := some (g, .inl (pc, L, st, h))
def fl_br (b : Bool) (t f : Nat) (L : fl_L) (st : List Value) (h : fl_H) : Option (Bool × fl_A) := some (true, .inr (.inl (b, t, f, L, st, h)))
def fl_dn (g : Bool) (r : Option (Option Value)) (h : fl_H) : Option (Bool × fl_A) := some (g, .inr (.inr (.inr (.inr (r, h)))))
def fl_ii (st : List Value) (k : Int32 → Int32 → List Value → Option (Bool × fl_A)) : Option (Bool × fl_A) := match st with
  | .int y :: .int x :: r => k x y r
  | _ => none
def fl_ll (st : List Value) (k : Int64 → Int64 → List Value → Option (Bool × fl_A)) : Option (Bool × fl_A) := match st with
  | .long y :: .long x :: r => k x y r
  | _ => none
def fl_li (st : List Value) (k : Int64 → Int32 → List Value → Option (Bool × fl_A)) : Option (Bool × fl_A) := match st with
  | .int y :: .long x :: r => k x y r
  | _ => none
def fl_i1 (st : List Value) (k : Int32 → List Value → Option (Bool × fl_A)) : Option (Bool × fl_A) := match st with
  | .int x :: r => k x r
  | _ => none
def fl_l1 (st : List Value) (k : Int64 → List Value → Option (Bool × fl_A)) : Option (Bool × fl_A) := match st with
  | .long x :: r => k x r
  | _ => none
def fl_r1 (st : List Value) (k : Nat → List Value → Option (Bool × fl_A)) : Option (Bool × fl_A) := match st with
  | .ref x :: r => k x r
  | _ => none
def fl_ri (st : List Value) (k : Nat → Int32 → List Value → Option (Bool × fl_A)) : Option (Bool × fl_A) := match st with
  | .int i :: .ref x :: r => k x i r
  | _ => none
def fl_rii (st : List Value) (k : Nat → Int32 → Int32 → List Value → Option (Bool × fl_A)) : Option (Bool × fl_A) := match st with
  | .int v :: .int i :: .ref x :: r => k x i v r
  | _ => none
def fl_ril (st : List Value) (k : Nat → Int32 → Int64 → List Value → Option (Bool × fl_A)) : Option (Bool × fl_A) := match st with
  | .long v :: .int i :: .ref x :: r => k x i v r
  | _ => none
def fl_rl (st : List Value) (k : Nat → Int64 → List Value → Option (Bool × fl_A)) : Option (Bool × fl_A) := match st with
  | .long v :: .ref x :: r => k x v r
  | _ => none
def fl_rr (st : List Value) (k : Nat → Nat → List Value → Option (Bool × fl_A)) : Option (Bool × fl_A) := match st with
  | .ref v :: .ref x :: r => k x v r
  | _ => none
def fl_iv (L : fl_L) (a : Nat) (k : Int32 → Option (Bool × fl_A)) : Option (Bool × fl_A) := match fl_get L a with
  | some (.int v) => k v
  | _ => none
def fl_lv (L : fl_L) (a : Nat) (k : Int64 → Option (Bool × fl_A)) : Option (Bool × fl_A) := match fl_get L a with
  | some (.long v) => k v
  | _ => none
def fl_rv (L : fl_L) (a : Nat) (k : Nat → Option (Bool × fl_A)) : Option (Bool × fl_A) := match fl_get L a with
  | some (.ref v) => k v
  | _ => none
def fl_if (c : ClassFile.Cond) (x y : Int32) : Bool := match c with
  | .eq => decide (x = y)
  | .ne => decide (¬ x = y)
  | .lt => decide (x < y)
  | .ge => decide (y ≤ x)
  | .gt => decide (y < x)
  | .le => decide (x ≤ y)
def fl_b01 (x : Int32) : Bool := decide (x = 0) || decide (x = 1)
def fl_fit (c : Nat) (v : Int32) : Bool := match c with
  | 0 => true
  | 3 => fl_b01 v
  | 4 => decide ((v.toUInt32 % 65536).toInt32 = v)
  | 5 => decide (v.toInt8.toInt32 = v)
  | _ => false
/-- arguments popped, the last one on top -/
def fl_pop : Nat → List Value → List Value → Option (List Value × List Value)
  | 0, acc, st => some (acc, st)
  | n + 1, acc, v :: st => fl_pop n (v :: acc) st
  | _ + 1, _, [] => none
/-- a call: c the kind (0 static, 1 virtual, 2 special; + 10: of a nest mate), a the method, b its arguments, d the receiver's class and 16 times the room for locals -/
def fl_call (e : fl_E) (pc : Nat) (L : fl_L) (st : List Value) (h : fl_H) : Option (Bool × fl_A) :=
  match e with
  | (_, _, a, b, c, d, _, _, _, sw, _) =>
    match fl_pop b [] st with
    | some (as, r) => some ((match c, as with
        | 0, _ => true
        | 10, _ => true
        | 1, .ref k :: _ => decide (fl_k h k = (1, d % 16))
        | 3, .ref k :: _ => decide ((fl_k h k).1 = 7)
        | 2, .ref _ :: _ => true
        | 12, .ref _ :: _ => true
        | _, _ => false) && (Nat.ble (fl_cat r) 8 && (Nat.ble (fl_cat as) (d / 16) && (match sw with
        | [] => true
        | _ :: _ => L.isEmpty))), .inr (.inr (.inr (.inl (a, as, pc + 3, L, r, sw, h)))))
    | none => none
def fl_step (e : fl_E) (pc : Nat) (L : fl_L) (st : List Value) (h : fl_H) : Option (Bool × fl_A) :=
  match e with
  | (ins, len, a, b, c, d, _, x, q, sw, _) =>
  match ins with
  | .iconst _ => fl_nx (pc + len) L (.int x :: st) h
  | .bipush _ => fl_nx (pc + len) L (.int x :: st) h
  | .sipush _ => fl_nx (pc + len) L (.int x :: st) h
  | .lconst _ => fl_nx (pc + len) L (.long q :: st) h
  | .ldc _ => match c with
    | 0 => fl_nx (pc + len) L (.int x :: st) h
    | 1 => fl_nx (pc + len) L (.ref a :: st) h
    | _ => none
  | .ldc_w _ => fl_nx (pc + len) L (.int x :: st) h
  | .ldc2_w _ => fl_nx (pc + len) L (.long q :: st) h
  | .iload _ => fl_iv L a fun v => fl_nx (pc + len) L (.int v :: st) h
  | .iload_n _ => fl_iv L a fun v => fl_nx (pc + len) L (.int v :: st) h
  | .lload _ => fl_lv L a fun v => fl_nx (pc + len) L (.long v :: st) h
  | .lload_n _ => fl_lv L a fun v => fl_nx (pc + len) L (.long v :: st) h
  | .aload _ => fl_rv L a fun v => fl_nx (pc + len) L (.ref v :: st) h
  | .aload_n _ => fl_rv L a fun v => fl_nx (pc + len) L (.ref v :: st) h
  | .istore _ => fl_i1 st fun v r => fl_ng (fl_nk L a) (pc + len) (fl_set L a (some (.int v))) r h
  | .istore_n _ => fl_i1 st fun v r => fl_ng (fl_nk L a) (pc + len) (fl_set L a (some (.int v))) r h
  | .lstore _ => fl_l1 st fun v r => fl_ng (fl_nk L a) (pc + len) (fl_set (fl_set L a (some (.long v))) (a + 1) none) r h
  | .lstore_n _ => fl_l1 st fun v r => fl_ng (fl_nk L a) (pc + len) (fl_set (fl_set L a (some (.long v))) (a + 1) none) r h
  | .astore _ => fl_r1 st fun v r => fl_ng (fl_nk L a) (pc + len) (fl_set L a (some (.ref v))) r h
  | .astore_n _ => fl_r1 st fun v r => fl_ng (fl_nk L a) (pc + len) (fl_set L a (some (.ref v))) r h
  | .iinc _ _ => fl_iv L a fun v => fl_ng (fl_nk L a) (pc + len) (fl_set L a (some (.int (v + x)))) st h
  | .iadd => fl_ii st fun x y r => fl_nx (pc + len) L (.int (x + y) :: r) h
  | .isub => fl_ii st fun x y r => fl_nx (pc + len) L (.int (x - y) :: r) h
  | .imul => fl_ii st fun x y r => fl_nx (pc + len) L (.int (x * y) :: r) h
  | .iand => fl_ii st fun x y r => fl_nx (pc + len) L (.int (x &&& y) :: r) h
  | .ior => fl_ii st fun x y r => fl_nx (pc + len) L (.int (x ||| y) :: r) h
  | .ixor => fl_ii st fun x y r => fl_nx (pc + len) L (.int (x ^^^ y) :: r) h
  | .idiv => fl_ii st fun x y r => fl_ng (decide (¬ y = 0)) (pc + len) L (.int (x / y) :: r) h
  | .irem => fl_ii st fun x y r => fl_ng (decide (¬ y = 0)) (pc + len) L (.int (x - x / y * y) :: r) h
  | .ishl => fl_ii st fun x y r => fl_nx (pc + len) L (.int (x <<< (y &&& 31)) :: r) h
  | .ishr => fl_ii st fun x y r => fl_nx (pc + len) L (.int (x >>> (y &&& 31)) :: r) h
  | .iushr => fl_ii st fun x y r => fl_nx (pc + len) L (.int (x.toUInt32 >>> (y.toUInt32 &&& Int32.toUInt32 31)).toInt32 :: r) h
  | .ladd => fl_ll st fun x y r => fl_nx (pc + len) L (.long (x + y) :: r) h
  | .lsub => fl_ll st fun x y r => fl_nx (pc + len) L (.long (x - y) :: r) h
  | .land => fl_ll st fun x y r => fl_nx (pc + len) L (.long (x &&& y) :: r) h
  | .lor => fl_ll st fun x y r => fl_nx (pc + len) L (.long (x ||| y) :: r) h
  | .lxor => fl_ll st fun x y r => fl_nx (pc + len) L (.long (x ^^^ y) :: r) h
  | .lshl => fl_li st fun x y r => fl_nx (pc + len) L (.long (x <<< (y.toInt64 &&& 63)) :: r) h
  | .lshr => fl_li st fun x y r => fl_nx (pc + len) L (.long (x >>> (y.toInt64 &&& 63)) :: r) h
  | .lushr => fl_li st fun x y r => fl_nx (pc + len) L (.long (x.toUInt64 >>> (y.toInt64.toUInt64 &&& Int64.toUInt64 63)).toInt64 :: r) h
  | .lcmp => fl_ll st fun x y r => fl_nx (pc + len) L (.int (lg_cmp x y) :: r) h
  | .i2l => fl_i1 st fun x r => fl_nx (pc + len) L (.long x.toInt64 :: r) h
  | .l2i => fl_l1 st fun x r => fl_nx (pc + len) L (.int x.toInt32 :: r) h
  | .i2c => fl_i1 st fun x r => fl_nx (pc + len) L (.int (x.toUInt32 % 65536).toInt32 :: r) h
  | .i2b => fl_i1 st fun x r => fl_nx (pc + len) L (.int x.toInt8.toInt32 :: r) h
  | .ifCond k _ => fl_i1 st fun x r => fl_br (fl_if k x 0) a (pc + len) L r h
  | .if_icmp k _ => fl_ii st fun x y r => fl_br (fl_if k x y) a (pc + len) L r h
  | .goto _ => fl_nx a L st h
  | .tableswitch _ _ _ _ => fl_i1 st fun x r => some (true, .inr (.inr (.inl (x, sw, a, L, r, h))))
  | .lookupswitch _ _ => fl_i1 st fun x r => some (true, .inr (.inr (.inl (x, sw, a, L, r, h))))
  | .getfield _ => match c with
    | 0 => fl_r1 st fun k r => fl_ng (decide (fl_k h k = (1, a))) (pc + len) L (.int (fl_i h k b) :: r) h
    | 3 => fl_r1 st fun k r => fl_ng (decide (fl_k h k = (1, a))) (pc + len) L (.int (fl_i h k b) :: r) h
    | 1 => fl_r1 st fun k r => fl_ng (decide (fl_k h k = (1, a))) (pc + len) L (.long (fl_l h k b) :: r) h
    | 2 => fl_r1 st fun k r => fl_ng (decide (fl_k h k = (1, a)) && (fl_r h k b).isSome) (pc + len) L (.ref ((fl_r h k b).getD 0) :: r) h
    | 7 => fl_r1 st fun k r => fl_ng (decide ((fl_k h k).1 = 7)) (pc + len) L (.ref (k + 16) :: r) h
    | 8 => fl_r1 st fun k r => fl_ng (decide ((fl_k h k).1 = 7)) (pc + len) L (.int 0 :: r) h
    | _ => none
  | .putfield _ => match c with
    | 0 => match st with
      | .int v :: .ref k :: r => fl_ng (decide (fl_k h k = (1, a))) (pc + len) L r (fl_si h k b v)
      | _ => none
    | 3 => match st with
      | .int v :: .ref k :: r => fl_ng (decide (fl_k h k = (1, a)) && fl_b01 v) (pc + len) L r (fl_si h k b v)
      | _ => none
    | 1 => fl_rl st fun k v r => fl_ng (decide (fl_k h k = (1, a))) (pc + len) L r (fl_sl h k b v)
    | 2 => fl_rr st fun k v r => fl_ng (decide (fl_k h k = (1, a)) && decide (v < h.1.1)) (pc + len) L r (fl_sr h k b v)
    | _ => none
  | .getstatic _ => match c with
    | 0 => fl_nx (pc + len) L (.int x :: st) h
    | 1 => fl_nx (pc + len) L (.retAddr 0 :: st) h
    | _ => none
  | .arraylength => fl_r1 st fun k r => fl_ng (decide ((fl_k h k).1 = a)) (pc + len) L (.int (Int32.ofNat (fl_k h k).2) :: r) h
  | .iaload => fl_ri st fun k i r => fl_ng (decide ((fl_k h k).1 = a) && fl_in i (fl_k h k).2) (pc + len) L (.int (fl_i h k i.toNatClampNeg) :: r) h
  | .baload => fl_ri st fun k i r => fl_ng (decide ((fl_k h k).1 = a) && fl_in i (fl_k h k).2) (pc + len) L (.int (fl_i h k i.toNatClampNeg) :: r) h
  | .laload => fl_ri st fun k i r => fl_ng (decide ((fl_k h k).1 = 3) && fl_in i (fl_k h k).2) (pc + len) L (.long (fl_l h k i.toNatClampNeg) :: r) h
  | .iastore => fl_rii st fun k i v r => fl_ng (decide ((fl_k h k).1 = 2) && fl_in i (fl_k h k).2) (pc + len) L r (fl_si h k i.toNatClampNeg v)
  | .bastore => fl_rii st fun k i v r => fl_ng (decide ((fl_k h k).1 = 4) && fl_in i (fl_k h k).2 && fl_b01 v) (pc + len) L r (fl_si h k i.toNatClampNeg v)
  | .lastore => fl_ril st fun k i v r => fl_ng (decide ((fl_k h k).1 = 3) && fl_in i (fl_k h k).2) (pc + len) L r (fl_sl h k i.toNatClampNeg v)
  | .new _ => match c with
    | 0 => fl_ng (h.1.2.2.2 && decide (h.1.1 < 1000000)) (pc + len) L (.ref h.1.1 :: st) (fl_mk h (1, a) b)
    | 1 => fl_dn (Nat.ble (fl_cat st) 8) none (fl_th h)
    | _ => none
  | .newarray _ => fl_i1 st fun n r => fl_ng (h.1.2.2.2 && decide (h.1.1 < 1000000) && decide (¬ n < 0) && decide (n.toNatClampNeg < 100000)) (pc + len) L (.ref h.1.1 :: r) (fl_mk h (a, n.toNatClampNeg) n.toNatClampNeg)
  | .dup => match st with
    | .int v :: r => fl_nx (pc + len) L (.int v :: .int v :: r) h
    | .ref v :: r => fl_nx (pc + len) L (.ref v :: .ref v :: r) h
    | _ => none
  | .dup2 => fl_ri st fun k i r => fl_nx (pc + len) L (.int i :: .ref k :: .int i :: .ref k :: r) h
  | .pop => fl_i1 st fun _ r => fl_nx (pc + len) L r h
  | .invokestatic _ => fl_call e pc L st h
  | .invokevirtual _ => fl_call e pc L st h
  | .invokespecial _ => match a with
    | 0 => fl_r1 st fun _ r => fl_ng (Nat.ble (fl_cat r) 8) (pc + len) L r h
    | _ => fl_call e pc L st h
  | .ireturn => match st with
    | [.int v] => fl_dn (fl_fit c v) (some (some (.int v))) h
    | _ => none
  | .lreturn => match st with
    | [.long v] => fl_dn true (some (some (.long v))) h
    | _ => none
  | .return_ => match st with
    | [] => fl_dn true (some none) h
    | _ => none
  | _ => none
def fl_swi {β : Type} (x : Int32) (k : Nat → β) (d : Nat) : List (Int32 × Nat) → β
  | [] => k d
  | (v, t) :: l => if x = v then k t else fl_swi x k d l
/-- behind a call -/
def fl_aft (nx : Nat → fl_L → List Value → fl_H → Option fl_O) (pc : Nat) (L : fl_L) (r : List Value) (sw : List (Int32 × Nat)) (o : Option fl_O) : Option fl_O := match o with
  | some (some v, h) => nx pc L (v.toList ++ r) h
  | some (none, h) => match sw with
    | (_, t) :: _ => nx t L [] h
    | [] => none
  | none => none
def fl_phi (nx : Nat → fl_L → List Value → fl_H → Option fl_O) (cl : Nat → List Value → fl_H → Option fl_O) (s : Option (Bool × fl_A)) : Option fl_O := match s with
  | none => none
  | some (g, x) => if g = true then (match x with
    | .inl (pc, L, st, h) => nx pc L st h
    | .inr (.inl (b, t, f, L, st, h)) => if b = true then nx t L st h else nx f L st h
    | .inr (.inr (.inl (x, sw, d, L, st, h))) => fl_swi x (fun t => nx t L st h) d sw
    | .inr (.inr (.inr (.inl (m, as, pc, L, r, sw, h)))) => fl_aft nx pc L r sw (cl m as h)
    | .inr (.inr (.inr (.inr o))) => some o) else none
section FLMACH
variable (C : Nat → Nat → Option fl_E)
def fl_lb (m pc : Nat) (L : fl_L) : fl_L := match C m pc with
  | some (_, _, _, _, _, _, _, _, _, _, some bs) => fl_mask bs L
  | _ => L
def fl_ex : Nat → Nat → Nat → fl_L → List Value → fl_H → Option fl_O
  | 0, _, _, _, _, _ => none
  | n + 1, m, pc, L, st, h => match C m pc with
    | none => none
    | some e => fl_phi (fun pc L st h => fl_ex n m pc (fl_lb C m pc L) st h) (fun m as h => fl_ex n m 0 (fl_lb C m 0 (fl_args as)) [] h) (fl_step e pc L st h)
end FLMACH
end
section
/-! THE LIMIT of fl_ex over its fuel, and the equation that it keeps -/
/-- one says at least what the other says -/
def fl_le (a b : Option fl_O) : Prop := ∀ r, a = some r → b = some r
theorem fl_le_rfl {a : Option fl_O} : fl_le a a := fun _ h => h
theorem fl_swi_le {x : Int32} {k k' : Nat → Option fl_O} (d : Nat) (hk : ∀ t, fl_le (k t) (k' t)) : ∀ l : List (Int32 × Nat), fl_le (fl_swi x k d l) (fl_swi x k' d l)
  | [] => hk d
  | (v, t) :: l => by
    unfold fl_swi
    by_cases hv : x = v
    · rw [if_pos hv, if_pos hv]; exact hk t
    · rw [if_neg hv, if_neg hv]; exact fl_swi_le d hk l
theorem fl_aft_le {nx nx' : Nat → fl_L → List Value → fl_H → Option fl_O} (hn : ∀ pc L st h, fl_le (nx pc L st h) (nx' pc L st h)) (pc : Nat) (L : fl_L) (r : List Value) (sw : List (Int32 × Nat)) {o o' : Option fl_O} (ho : fl_le o o') : fl_le (fl_aft nx pc L r sw o) (fl_aft nx' pc L r sw o') := by
  cases o with
  | none => intro q hq; cases hq
  | some z =>
    rw [ho z rfl]
    obtain ⟨v, h⟩ := z
    cases v with
    | some v => exact hn _ _ _ _
    | none =>
      cases sw with
      | nil => exact fl_le_rfl
      | cons y l => exact hn _ _ _ _
theorem fl_phi_le {nx nx' : Nat → fl_L → List Value → fl_H → Option fl_O} {cl cl' : Nat → List Value → fl_H → Option fl_O} (hn : ∀ pc L st h, fl_le (nx pc L st h) (nx' pc L st h)) (hc : ∀ m as h, fl_le (cl m as h) (cl' m as h)) (s : Option (Bool × fl_A)) : fl_le (fl_phi nx cl s) (fl_phi nx' cl' s) := by
  cases s with
  | none => exact fl_le_rfl
  | some z =>
    obtain ⟨g, x⟩ := z
    unfold fl_phi
    cases g with
    | false => exact fl_le_rfl
    | true =>
      simp only [if_true]
      rcases x with ⟨pc, L, st, h⟩ | ⟨b, t, f, L, st, h⟩ | ⟨x, sw, d, L, st, h⟩ | ⟨m, as, pc, L, r, sw, h⟩ | o
      · exact hn _ _ _ _
      · cases b
        · exact hn _ _ _ _
        · exact hn _ _ _ _
      · exact fl_swi_le d (fun t => hn t L st h) sw
      · exact fl_aft_le hn _ _ _ _ (hc m as h)
      · exact fl_le_rfl
section FLLIM
variable (C : Nat → Nat → Option fl_E)
theorem fl_ex_le : ∀ (n m pc : Nat) (L : fl_L) (st : List Value) (h : fl_H), fl_le (fl_ex C n m pc L st h) (fl_ex C (n + 1) m pc L st h)
  | 0, _, _, _, _, _ => fun r h => by cases h
  | n + 1, m, pc, L, st, h => by
    rw [fl_ex, fl_ex]
    cases C m pc with
    | none => exact fl_le_rfl
    | some e => exact fl_phi_le (fun pc L st h => fl_ex_le n m pc _ st h) (fun m as h => fl_ex_le n m 0 _ [] h) _
theorem fl_ex_up {n n' : Nat} (hn : n ≤ n') (m pc : Nat) (L : fl_L) (st : List Value) (h : fl_H) : fl_le (fl_ex C n m pc L st h) (fl_ex C n' m pc L st h) := by
  induction hn with
  | refl => exact fl_le_rfl
  | step _ ih => exact fun r hr => fl_ex_le C _ m pc L st h r (ih r hr)
/-- the limit -/
noncomputable def fl_Rn (m pc : Nat) (L : fl_L) (st : List Value) (h : fl_H) : Option fl_O :=
  @dite _ (∃ r n, fl_ex C n m pc L st h = some r) (Classical.propDecidable _) (fun hx => some (Classical.choose hx)) (fun _ => none)
theorem fl_Rn_iff {m pc : Nat} {L : fl_L} {st : List Value} {h : fl_H} {r : fl_O} : fl_Rn C m pc L st h = some r ↔ ∃ n, fl_ex C n m pc L st h = some r := by
  unfold fl_Rn
  constructor
  · intro hr
    by_cases hx : ∃ r n, fl_ex C n m pc L st h = some r
    · rw [dif_pos hx] at hr
      cases hr
      exact Classical.choose_spec hx
    · rw [dif_neg hx] at hr
      cases hr
  · rintro ⟨n, hn⟩
    have hx : ∃ r n, fl_ex C n m pc L st h = some r := ⟨r, n, hn⟩
    rw [dif_pos hx]
    obtain ⟨n', hn'⟩ := Classical.choose_spec hx
    have h1 := fl_ex_up C (Nat.le_max_left n n') m pc L st h _ hn
    have h2 := fl_ex_up C (Nat.le_max_right n n') m pc L st h _ hn'
    exact h2.symm.trans h1
theorem fl_ex_Rn (n m pc : Nat) (L : fl_L) (st : List Value) (h : fl_H) : fl_le (fl_ex C n m pc L st h) (fl_Rn C m pc L st h) := fun _ hr => (fl_Rn_iff C).mpr ⟨n, hr⟩
/-- a call -/
noncomputable def fl_cl (m : Nat) (as : List Value) (h : fl_H) : Option fl_O := fl_Rn C m 0 (fl_lb C m 0 (fl_args as)) [] h
/-- the limit of a step -/
theorem fl_phi_lim (m : Nat) (s : Option (Bool × fl_A)) {r : fl_O} (hr : fl_phi (fun pc L st h => fl_Rn C m pc (fl_lb C m pc L) st h) (fl_cl C) s = some r) :
    ∃ n, fl_phi (fun pc L st h => fl_ex C n m pc (fl_lb C m pc L) st h) (fun m as h => fl_ex C n m 0 (fl_lb C m 0 (fl_args as)) [] h) s = some r := by
  have nxt : ∀ {pc L st h} {r : fl_O}, fl_Rn C m pc (fl_lb C m pc L) st h = some r → ∃ n, fl_ex C n m pc (fl_lb C m pc L) st h = some r := fun h => (fl_Rn_iff C).mp h
  cases s with
  | none => cases hr
  | some z =>
    obtain ⟨g, x⟩ := z
    unfold fl_phi at hr ⊢
    cases g with
    | false => cases hr
    | true =>
      simp only [if_true] at hr ⊢
      rcases x with ⟨pc, L, st, h⟩ | ⟨b, t, f, L, st, h⟩ | ⟨x, sw, d, L, st, h⟩ | ⟨m', as, pc, L, q, sw, h⟩ | o
      · exact nxt hr
      · cases b
        · exact nxt hr
        · exact nxt hr
      · have key : ∀ l : List (Int32 × Nat), fl_swi x (fun t => fl_Rn C m t (fl_lb C m t L) st h) d l = some r → ∃ n, fl_swi x (fun t => fl_ex C n m t (fl_lb C m t L) st h) d l = some r := by
          intro l
          induction l with
          | nil => exact fun hr => nxt hr
          | cons y l ih =>
            obtain ⟨v, t⟩ := y
            intro hr
            unfold fl_swi at hr ⊢
            by_cases hv : x = v
            · rw [if_pos hv] at hr
              obtain ⟨n, hn⟩ := nxt hr
              exact ⟨n, by rw [if_pos hv]; exact hn⟩
            · rw [if_neg hv] at hr
              obtain ⟨n, hn⟩ := ih hr
              exact ⟨n, by rw [if_neg hv]; exact hn⟩
        exact key sw hr
      · unfold fl_cl at hr
        dsimp only at hr ⊢
        cases ho : fl_Rn C m' 0 (fl_lb C m' 0 (fl_args as)) [] h with
        | none => rw [ho] at hr; cases hr
        | some o =>
          rw [ho] at hr
          obtain ⟨n1, h1⟩ := (fl_Rn_iff C).mp ho
          have : ∃ n2, fl_aft (fun pc L st h => fl_ex C n2 m pc (fl_lb C m pc L) st h) pc L q sw (some o) = some r := by
            obtain ⟨v, h'⟩ := o
            cases v with
            | some v => exact nxt hr
            | none =>
              cases sw with
              | nil => cases hr
              | cons y l => exact nxt hr
          obtain ⟨n2, h2⟩ := this
          refine ⟨max n1 n2, ?_⟩
          have e1 := fl_ex_up C (Nat.le_max_left n1 n2) m' 0 (fl_lb C m' 0 (fl_args as)) [] h _ h1
          rw [e1]
          exact fl_aft_le (fun pc L st h => fl_ex_up C (Nat.le_max_right n1 n2) m pc _ st h) pc L q sw fl_le_rfl r h2
      · exact ⟨0, hr⟩
/-- THE EQUATION -/
theorem fl_Rn_eq (m pc : Nat) (L : fl_L) (st : List Value) (h : fl_H) : fl_Rn C m pc L st h = match C m pc with
    | none => none
    | some e => fl_phi (fun pc L st h => fl_Rn C m pc (fl_lb C m pc L) st h) (fl_cl C) (fl_step e pc L st h) := by
  cases hC : C m pc with
  | none =>
    cases ho : fl_Rn C m pc L st h with
    | none => rfl
    | some r =>
      obtain ⟨n, hn⟩ := (fl_Rn_iff C).mp ho
      cases n with
      | zero => cases hn
      | succ n => rw [fl_ex, hC] at hn; cases hn
  | some e =>
    dsimp only
    cases ho : fl_phi (fun pc L st h => fl_Rn C m pc (fl_lb C m pc L) st h) (fl_cl C) (fl_step e pc L st h) with
    | none =>
      cases hr : fl_Rn C m pc L st h with
      | none => rfl
      | some r =>
        obtain ⟨n, hn⟩ := (fl_Rn_iff C).mp hr
        cases n with
        | zero => cases hn
        | succ n =>
          rw [fl_ex, hC] at hn
          have := fl_phi_le (fun pc L st h => fl_ex_Rn C n m pc (fl_lb C m pc L) st h) (fun m as h => fl_ex_Rn C n m 0 (fl_lb C m 0 (fl_args as)) [] h) _ r hn
          exact absurd (ho.symm.trans this) (fun h => by cases h)
    | some r =>
      obtain ⟨n, hn⟩ := fl_phi_lim C m _ ho
      exact (fl_Rn_iff C).mpr ⟨n + 1, by rw [fl_ex, hC]; exact hn⟩
def fl_inv : Instr → Bool
  | .invokestatic _ => true
  | .invokevirtual _ => true
  | .invokespecial _ => true
  | _ => false
/-- fl_phi, with a word of its own for what comes behind a call -/
def fl_ph2 (nx nr : Nat → fl_L → List Value → fl_H → Option fl_O) (cl : Nat → List Value → fl_H → Option fl_O) (s : Option (Bool × fl_A)) : Option fl_O := match s with
  | none => none
  | some (g, x) => if g = true then (match x with
    | .inl (pc, L, st, h) => nx pc L st h
    | .inr (.inl (b, t, f, L, st, h)) => if b = true then nx t L st h else nx f L st h
    | .inr (.inr (.inl (x, sw, d, L, st, h))) => fl_swi x (fun t => nx t L st h) d sw
    | .inr (.inr (.inr (.inl (m, as, pc, L, r, sw, h)))) => fl_aft nr pc L r sw (cl m as h)
    | .inr (.inr (.inr (.inr o))) => some o) else none
/-- behind a call of m -/
noncomputable def fl_ca (m pc : Nat) (L : fl_L) (r : List Value) (sw : List (Int32 × Nat)) (o : Option fl_O) : Option fl_O := fl_aft (fun pc L st h => fl_Rn C m pc (fl_lb C m pc L) st h) pc L r sw o
/-- the tree of k steps, down to the calls and to the places where a list of what lives stands -/
noncomputable def fl_run : Nat → Nat → Nat → fl_L → List Value → fl_H → Option fl_O
  | 0, m, pc, L, st, h => fl_Rn C m pc L st h
  | k + 1, m, pc, L, st, h => match C m pc with
    | none => none
    | some e => fl_ph2 (fun pc L st h => match C m pc with
      | some (ins, _, _, _, _, _, _, _, _, _, some bs) => match fl_inv ins with
        | true => fl_run k m pc (fl_mask bs L) st h
        | false => fl_Rn C m pc (fl_mask bs L) st h
      | _ => fl_run k m pc L st h) (fun pc L st h => fl_Rn C m pc (fl_lb C m pc L) st h) (fl_cl C) (fl_step e pc L st h)
theorem fl_run_eq : ∀ (k m pc : Nat) (L : fl_L) (st : List Value) (h : fl_H), fl_Rn C m pc L st h = fl_run C k m pc L st h
  | 0, _, _, _, _, _ => rfl
  | k + 1, m, pc, L, st, h => by
    rw [fl_Rn_eq, fl_run]
    cases C m pc with
    | none => rfl
    | some e =>
      dsimp only
      show fl_ph2 _ _ _ _ = _
      congr 1
      funext pc L st h
      unfold fl_lb
      rcases C m pc with _ | ⟨ins, _, _, _, _, _, _, _, _, _, _ | bs⟩
      · exact fl_run_eq k m pc L st h
      · exact fl_run_eq k m pc L st h
      · dsimp only
        cases fl_inv ins
        · rfl
        · exact fl_run_eq k m pc _ st h
end FLLIM
end
section
/-! THE CODE of all methods, by their numbers (printed by wip/whole/gencode.py) -/
def fl_nth {α : Type} : List α → α → Nat → α
  | [], d, _ => d
  | x :: _, _, 0 => x
  | _ :: l, d, n + 1 => fl_nth l d n
def fl_e0 (i : Instr) (n : Nat) : fl_E := (i, n, 0, 0, 0, 0, 0, 0, 0, [], none)
def fl_ea (i : Instr) (n a : Nat) : fl_E := (i, n, a, 0, 0, 0, 0, 0, 0, [], none)
def fl_ex1 (i : Instr) (n : Nat) (x : Int32) : fl_E := (i, n, 0, 0, 0, 0, 0, x, 0, [], none)
def fl_ef (i : Instr) (n a b c d p : Nat) : fl_E := (i, n, a, b, c, d, p, 0, 0, [], none)
def fl_ew (i : Instr) (n a b c d p : Nat) (x : Int32) (q : Int64) (s : List (Int32 × Nat)) : fl_E := (i, n, a, b, c, d, p, x, q, s, none)
def fl_el (e : fl_E) (l : List Bool) : Option fl_E := match e with
  | (i, n, a, b, c, d, p, x, q, s, _) => some (i, n, a, b, c, d, p, x, q, s, some l)
def fl_n3 {α : Type} (l : List (List (List (Option α)))) (i : Nat) : Option α := fl_nth (fl_nth (fl_nth l [] (i / 64)) [] (i / 8 % 8)) none (i % 8)
/-- FaultLists$Cells.<init>(I)V -/
def fl_c10 : List (List (List (Option fl_E))) := [[[some (fl_e0 (.aload_n 0) 1), some (fl_ef (.invokespecial 1) 3 0 1 2 0 44), none, none, some (fl_e0 (.aload_n 0) 1), some (fl_ea (.iload_n 1) 1 1), some (fl_ea (.ifCond .ge 7) 3 13), none], [none, some (fl_e0 (.iconst 0) 1), some (fl_ea (.goto 4) 3 14), none, none, some (fl_ea (.iload_n 1) 1 1), some (fl_ea (.newarray .long) 2 3), none], [some (fl_ef (.putfield 7) 3 1 0 2 0 45), none, none, fl_el (fl_e0 (.return_) 1) []]]]
/-- FaultLists$Pile.<init>(I)V -/
def fl_c11 : List (List (List (Option fl_E))) := [[[some (fl_e0 (.aload_n 0) 1), some (fl_ef (.invokespecial 1) 3 0 1 2 0 38), none, none, some (fl_e0 (.aload_n 0) 1), some (fl_ea (.iload_n 1) 1 1), some (fl_ef (.putfield 7) 3 5 1 0 0 51), none], [none, fl_el (fl_e0 (.aload_n 0) 1) [true, true], some (fl_ef (.new 13) 3 1 1 0 0 39), none, none, some (fl_e0 (.dup) 1), some (fl_ea (.iload_n 1) 1 1), fl_el (fl_ef (.invokespecial 15) 3 10 2 2 32 41) []], [none, none, some (fl_ef (.putfield 18) 3 5 0 2 0 50), none, none, fl_el (fl_e0 (.return_) 1) []]]]
/-- FaultLists$Net.<init>()V -/
def fl_c12 : List (List (List (Option fl_E))) := [[[some (fl_e0 (.aload_n 0) 1), some (fl_ef (.invokespecial 3) 3 0 1 2 0 71), none, none, some (fl_e0 (.aload_n 0) 1), some (fl_ef (.new 9) 3 1 1 0 0 72), none, none], [some (fl_e0 (.dup) 1), some (fl_ex1 (.bipush 12) 2 12), none, fl_el (fl_ef (.invokespecial 11) 3 10 2 2 32 73) [true], none, none, some (fl_ef (.putfield 14) 3 4 5 2 0 101), none], [none, fl_el (fl_e0 (.aload_n 0) 1) [true], some (fl_ef (.new 9) 3 1 1 0 0 72), none, none, some (fl_e0 (.dup) 1), some (fl_ex1 (.bipush 12) 2 12), none], [fl_el (fl_ef (.invokespecial 11) 3 10 2 2 32 73) [true], none, none, some (fl_ef (.putfield 20) 3 4 6 2 0 105), none, none, fl_el (fl_e0 (.aload_n 0) 1) [true], some (fl_ef (.new 9) 3 1 1 0 0 72)], [none, none, some (fl_e0 (.dup) 1), some (fl_ex1 (.bipush 12) 2 12), none, fl_el (fl_ef (.invokespecial 11) 3 10 2 2 32 73) [true], none, none], [some (fl_ef (.putfield 23) 3 4 7 2 0 109), none, none, fl_el (fl_e0 (.aload_n 0) 1) [true], some (fl_ef (.new 9) 3 1 1 0 0 72), none, none, some (fl_e0 (.dup) 1)], [some (fl_ex1 (.bipush 12) 2 12), none, fl_el (fl_ef (.invokespecial 11) 3 10 2 2 32 73) [true], none, none, some (fl_ef (.putfield 26) 3 4 8 2 0 114), none, none], [fl_el (fl_e0 (.aload_n 0) 1) [true], some (fl_ef (.new 9) 3 1 1 0 0 72), none, none, some (fl_e0 (.dup) 1), some (fl_ex1 (.bipush 20) 2 20), none, fl_el (fl_ef (.invokespecial 11) 3 10 2 2 32 73) [true]]], [[none, none, some (fl_ef (.putfield 29) 3 4 9 2 0 118), none, none, fl_el (fl_e0 (.aload_n 0) 1) [true], some (fl_ef (.new 9) 3 1 1 0 0 72), none], [none, some (fl_e0 (.dup) 1), some (fl_ex1 (.iconst 4) 1 4), fl_el (fl_ef (.invokespecial 11) 3 10 2 2 32 73) [], none, none, some (fl_ef (.putfield 32) 3 4 10 2 0 123), none], [none, fl_el (fl_e0 (.return_) 1) []]]]
/-- FaultLists$Reader.<init>()V -/
def fl_c13 : List (List (List (Option fl_E))) := [[[some (fl_e0 (.aload_n 0) 1), some (fl_ef (.invokespecial 3) 3 0 1 2 0 65), none, none, some (fl_e0 (.aload_n 0) 1), some (fl_ef (.new 9) 3 4 11 0 0 66), none, none], [some (fl_e0 (.dup) 1), fl_el (fl_ef (.invokespecial 11) 3 12 1 12 16 68) [true], none, none, some (fl_ef (.putfield 12) 3 6 0 2 0 154), none, none, fl_el (fl_e0 (.aload_n 0) 1) [true]], [some (fl_ef (.new 18) 3 5 3 0 0 152), none, none, some (fl_e0 (.dup) 1), some (fl_ex1 (.iconst 4) 1 4), fl_el (fl_ef (.invokespecial 20) 3 11 2 2 32 153) [true], none, none], [some (fl_ef (.putfield 23) 3 6 1 2 0 156), none, none, fl_el (fl_e0 (.aload_n 0) 1) [true], some (fl_ef (.new 18) 3 5 3 0 0 152), none, none, some (fl_e0 (.dup) 1)], [some (fl_ex1 (.iconst 4) 1 4), fl_el (fl_ef (.invokespecial 20) 3 11 2 2 32 153) [], none, none, some (fl_ef (.putfield 27) 3 6 2 2 0 158), none, none, fl_el (fl_e0 (.return_) 1) []]]]
/-- FaultLists$Side.<init>()V -/
def fl_c14 : List (List (List (Option fl_E))) := [[[some (fl_e0 (.aload_n 0) 1), some (fl_ef (.invokespecial 3) 3 0 1 2 0 192), none, none, some (fl_e0 (.aload_n 0) 1), some (fl_ef (.new 9) 3 1 1 0 0 193), none, none], [some (fl_e0 (.dup) 1), some (fl_ex1 (.bipush 12) 2 12), none, fl_el (fl_ef (.invokespecial 11) 3 10 2 2 32 194) [true], none, none, some (fl_ef (.putfield 14) 3 9 0 2 0 195), none], [none, fl_el (fl_e0 (.aload_n 0) 1) [true], some (fl_ef (.new 9) 3 1 1 0 0 193), none, none, some (fl_e0 (.dup) 1), some (fl_ex1 (.bipush 12) 2 12), none], [fl_el (fl_ef (.invokespecial 11) 3 10 2 2 32 194) [true], none, none, some (fl_ef (.putfield 20) 3 9 1 2 0 198), none, none, fl_el (fl_e0 (.aload_n 0) 1) [true], some (fl_ef (.new 9) 3 1 1 0 0 193)], [none, none, some (fl_e0 (.dup) 1), some (fl_ex1 (.bipush 12) 2 12), none, fl_el (fl_ef (.invokespecial 11) 3 10 2 2 32 194) [true], none, none], [some (fl_ef (.putfield 23) 3 9 2 2 0 201), none, none, fl_el (fl_e0 (.aload_n 0) 1) [true], some (fl_ef (.new 9) 3 1 1 0 0 193), none, none, some (fl_e0 (.dup) 1)], [some (fl_ex1 (.bipush 12) 2 12), none, fl_el (fl_ef (.invokespecial 11) 3 10 2 2 32 194) [], none, none, some (fl_ef (.putfield 26) 3 9 3 2 0 204), none, none], [fl_el (fl_e0 (.return_) 1) []]]]
/-- FaultLists$Bench.<init>()V -/
def fl_c15 : List (List (List (Option fl_E))) := [[[some (fl_e0 (.aload_n 0) 1), some (fl_ef (.invokespecial 1) 3 0 1 2 0 186), none, none, some (fl_e0 (.aload_n 0) 1), some (fl_ef (.new 7) 3 9 4 0 0 187), none, none], [some (fl_e0 (.dup) 1), fl_el (fl_ef (.invokespecial 9) 3 14 1 12 16 189) [true], none, none, some (fl_ef (.putfield 10) 3 0 0 2 0 216), none, none, fl_el (fl_e0 (.aload_n 0) 1) [true]], [some (fl_ef (.new 7) 3 9 4 0 0 187), none, none, some (fl_e0 (.dup) 1), fl_el (fl_ef (.invokespecial 9) 3 14 1 12 16 189) [], none, none, some (fl_ef (.putfield 16) 3 0 1 2 0 219)], [none, none, fl_el (fl_e0 (.return_) 1) []]]]
/-- FaultLists$Run.<init>()V -/
def fl_c16 : List (List (List (Option fl_E))) := [[[some (fl_e0 (.aload_n 0) 1), some (fl_ef (.invokespecial 3) 3 0 1 2 0 178), none, none, some (fl_e0 (.aload_n 0) 1), some (fl_ef (.new 9) 3 4 11 0 0 179), none, none], [some (fl_e0 (.dup) 1), fl_el (fl_ef (.invokespecial 11) 3 12 1 12 16 180) [true], none, none, some (fl_ef (.putfield 12) 3 7 0 2 0 229), none, none, fl_el (fl_e0 (.aload_n 0) 1) [true]], [some (fl_ef (.new 18) 3 0 2 0 0 181), none, none, some (fl_e0 (.dup) 1), fl_el (fl_ef (.invokespecial 20) 3 15 1 12 16 183) [true], none, none, some (fl_ef (.putfield 21) 3 7 1 2 0 231)], [none, none, fl_el (fl_e0 (.aload_n 0) 1) [true], some (fl_ef (.new 25) 3 1 1 0 0 227), none, none, some (fl_e0 (.dup) 1), some (fl_ex1 (.bipush 24) 2 24)], [none, fl_el (fl_ef (.invokespecial 27) 3 10 2 2 32 228) [true], none, none, some (fl_ef (.putfield 30) 3 7 2 2 0 233), none, none, fl_el (fl_e0 (.aload_n 0) 1) [true]], [some (fl_ef (.new 25) 3 1 1 0 0 227), none, none, some (fl_e0 (.dup) 1), some (fl_ex1 (.bipush 64) 2 64), none, fl_el (fl_ef (.invokespecial 27) 3 10 2 2 32 228) [true], none], [none, some (fl_ef (.putfield 34) 3 7 8 2 0 245), none, none, fl_el (fl_e0 (.aload_n 0) 1) [true], some (fl_ef (.new 25) 3 1 1 0 0 227), none, none], [some (fl_e0 (.dup) 1), some (fl_ex1 (.bipush 64) 2 64), none, fl_el (fl_ef (.invokespecial 27) 3 10 2 2 32 228) [], none, none, some (fl_ef (.putfield 37) 3 7 9 2 0 247), none]], [[none, fl_el (fl_e0 (.return_) 1) []]]]
/-- FaultLists$Kin.<init>()V -/
def fl_c17 : List (List (List (Option fl_E))) := [[[some (fl_e0 (.aload_n 0) 1), some (fl_ef (.invokespecial 3) 3 0 1 2 0 279), none, none, some (fl_e0 (.aload_n 0) 1), some (fl_ef (.new 9) 3 1 1 0 0 280), none, none], [some (fl_e0 (.dup) 1), some (fl_ex1 (.bipush 64) 2 64), none, fl_el (fl_ef (.invokespecial 11) 3 10 2 2 32 281) [], none, none, some (fl_ef (.putfield 14) 3 2 0 2 0 282), none], [none, fl_el (fl_e0 (.return_) 1) []]]]
/-- FaultLists$Moves.<init>()V -/
def fl_c18 : List (List (List (Option fl_E))) := [[[some (fl_e0 (.aload_n 0) 1), some (fl_ef (.invokespecial 5) 3 0 1 2 0 300), none, none, some (fl_e0 (.aload_n 0) 1), some (fl_ef (.new 11) 3 9 4 0 0 301), none, none], [some (fl_e0 (.dup) 1), fl_el (fl_ef (.invokespecial 13) 3 14 1 12 16 302) [true], none, none, some (fl_ef (.putfield 14) 3 3 0 2 0 305), none, none, fl_el (fl_e0 (.aload_n 0) 1) [true]], [some (fl_ef (.new 18) 3 1 1 0 0 303), none, none, some (fl_e0 (.dup) 1), some (fl_ex1 (.sipush 432) 3 432), none, none, fl_el (fl_ef (.invokespecial 20) 3 10 2 2 32 304) [true]], [none, none, some (fl_ef (.putfield 23) 3 3 1 2 0 306), none, none, fl_el (fl_e0 (.aload_n 0) 1) [true], some (fl_ef (.new 18) 3 1 1 0 0 303), none], [none, some (fl_e0 (.dup) 1), some (fl_ex1 (.sipush 3024) 3 3024), none, none, fl_el (fl_ef (.invokespecial 20) 3 10 2 2 32 304) [true], none, none], [some (fl_ef (.putfield 27) 3 3 2 2 0 307), none, none, fl_el (fl_e0 (.aload_n 0) 1) [true], some (fl_ef (.new 18) 3 1 1 0 0 303), none, none, some (fl_e0 (.dup) 1)], [some (fl_ex1 (.sipush 3024) 3 3024), none, none, fl_el (fl_ef (.invokespecial 20) 3 10 2 2 32 304) [], none, none, some (fl_ef (.putfield 30) 3 3 3 2 0 308), none], [none, fl_el (fl_e0 (.return_) 1) []]]]
/-- FaultLists$Search.<init>()V -/
def fl_c19 : List (List (List (Option fl_E))) := [[[some (fl_e0 (.aload_n 0) 1), some (fl_ef (.invokespecial 5) 3 0 1 2 0 292), none, none, some (fl_e0 (.aload_n 0) 1), some (fl_ef (.new 11) 3 1 1 0 0 293), none, none], [some (fl_e0 (.dup) 1), some (fl_ex1 (.bipush 6) 2 6), none, fl_el (fl_ef (.invokespecial 13) 3 10 2 2 32 294) [true], none, none, some (fl_ef (.putfield 16) 3 8 0 2 0 318), none], [none, fl_el (fl_e0 (.aload_n 0) 1) [true], some (fl_ef (.new 1) 3 3 4 0 0 295), none, none, some (fl_e0 (.dup) 1), fl_el (fl_ef (.invokespecial 22) 3 18 1 12 16 297) [true], none], [none, some (fl_ef (.putfield 23) 3 8 1 2 0 320), none, none, fl_el (fl_e0 (.aload_n 0) 1) [true], some (fl_ef (.new 1) 3 3 4 0 0 295), none, none], [some (fl_e0 (.dup) 1), fl_el (fl_ef (.invokespecial 22) 3 18 1 12 16 297) [true], none, none, some (fl_ef (.putfield 27) 3 8 2 2 0 321), none, none, fl_el (fl_e0 (.aload_n 0) 1) [true]], [some (fl_ef (.new 11) 3 1 1 0 0 293), none, none, some (fl_e0 (.dup) 1), some (fl_ex1 (.sipush 729) 3 729), none, none, fl_el (fl_ef (.invokespecial 13) 3 10 2 2 32 294) [true]], [none, none, some (fl_ef (.putfield 30) 3 8 3 2 0 322), none, none, fl_el (fl_e0 (.aload_n 0) 1) [true], some (fl_ef (.new 11) 3 1 1 0 0 293), none], [none, some (fl_e0 (.dup) 1), some (fl_ex1 (.sipush 729) 3 729), none, none, fl_el (fl_ef (.invokespecial 13) 3 10 2 2 32 294) [true], none, none]], [[some (fl_ef (.putfield 33) 3 8 4 2 0 323), none, none, fl_el (fl_e0 (.aload_n 0) 1) [true], some (fl_ef (.new 11) 3 1 1 0 0 293), none, none, some (fl_e0 (.dup) 1)], [some (fl_ex1 (.sipush 729) 3 729), none, none, fl_el (fl_ef (.invokespecial 13) 3 10 2 2 32 294) [true], none, none, some (fl_ef (.putfield 36) 3 8 5 2 0 324), none], [none, fl_el (fl_e0 (.aload_n 0) 1) [true], some (fl_ef (.new 11) 3 1 1 0 0 293), none, none, some (fl_e0 (.dup) 1), some (fl_ex1 (.sipush 729) 3 729), none], [none, fl_el (fl_ef (.invokespecial 13) 3 10 2 2 32 294) [true], none, none, some (fl_ef (.putfield 39) 3 8 6 2 0 325), none, none, fl_el (fl_e0 (.aload_n 0) 1) [true]], [some (fl_ef (.new 11) 3 1 1 0 0 293), none, none, some (fl_e0 (.dup) 1), some (fl_ex1 (.sipush 729) 3 729), none, none, fl_el (fl_ef (.invokespecial 13) 3 10 2 2 32 294) []], [none, none, some (fl_ef (.putfield 42) 3 8 7 2 0 326), none, none, fl_el (fl_e0 (.return_) 1) []]]]
/-- FaultLists$Cells.put(IJ)V -/
def fl_c20 : List (List (List (Option fl_E))) := [[[some (fl_ea (.iload_n 1) 1 1), some (fl_ea (.ifCond .lt 19) 3 20), none, none, some (fl_ea (.iload_n 1) 1 1), some (fl_e0 (.aload_n 0) 1), some (fl_ef (.getfield 7) 3 1 0 2 0 45), none], [none, some (fl_ea (.arraylength) 1 3), some (fl_ea (.if_icmp .ge 10) 3 20), none, none, some (fl_e0 (.aload_n 0) 1), some (fl_ef (.getfield 7) 3 1 0 2 0 45), none], [none, some (fl_ea (.iload_n 1) 1 1), some (fl_ea (.lload_n 2) 1 2), some (fl_e0 (.lastore) 1), fl_el (fl_e0 (.return_) 1) []]]]
/-- FaultLists$Net.addLine(III)V -/
def fl_c21 : List (List (List (Option fl_E))) := [[[some (fl_e0 (.aload_n 0) 1), some (fl_ef (.getfield 14) 3 4 5 2 0 101), none, none, some (fl_e0 (.aload_n 0) 1), some (fl_ef (.getfield 39) 3 4 1 0 0 79), none, none], [some (fl_ea (.iload_n 1) 1 1), some (fl_e0 (.i2l) 1), fl_el (fl_ef (.invokevirtual 59) 3 20 3 1 65 355) [true, true, true, true], none, none, some (fl_e0 (.aload_n 0) 1), some (fl_ef (.getfield 23) 3 4 7 2 0 109), none], [none, some (fl_e0 (.aload_n 0) 1), some (fl_ef (.getfield 39) 3 4 1 0 0 79), none, none, some (fl_ea (.iload_n 2) 1 2), some (fl_e0 (.i2l) 1), fl_el (fl_ef (.invokevirtual 59) 3 20 3 1 65 355) [true, true, true, true]], [none, none, some (fl_e0 (.aload_n 0) 1), some (fl_ef (.getfield 20) 3 4 6 2 0 105), none, none, some (fl_e0 (.aload_n 0) 1), some (fl_ef (.getfield 39) 3 4 1 0 0 79)], [none, none, some (fl_ea (.iload_n 2) 1 2), some (fl_ex1 (.iconst (-1)) 1 (-1)), some (fl_ea (.if_icmp .ne 7) 3 43), none, none, some (fl_e0 (.lconst 0) 1)], [some (fl_ea (.goto 10) 3 50), none, none, some (fl_e0 (.aload_n 0) 1), some (fl_ef (.getfield 42) 3 4 2 0 0 86), none, none, some (fl_ea (.iload_n 2) 1 2)], [some (fl_e0 (.isub) 1), some (fl_e0 (.i2l) 1), fl_el (fl_ef (.invokevirtual 59) 3 20 3 1 65 355) [true, true, false, true], none, none, some (fl_e0 (.aload_n 0) 1), some (fl_ef (.getfield 26) 3 4 8 2 0 114), none], [none, some (fl_e0 (.aload_n 0) 1), some (fl_ef (.getfield 39) 3 4 1 0 0 79), none, none, some (fl_ea (.iload_n 3) 1 3), some (fl_e0 (.i2l) 1), fl_el (fl_ef (.invokevirtual 59) 3 20 3 1 65 355) [true, true]]], [[none, none, some (fl_e0 (.aload_n 0) 1), some (fl_e0 (.dup) 1), some (fl_ef (.getfield 39) 3 4 1 0 0 79), none, none, some (fl_ex1 (.iconst 1) 1 1)], [some (fl_e0 (.iadd) 1), some (fl_ef (.putfield 39) 3 4 1 0 0 79), none, none, fl_el (fl_e0 (.aload_n 0) 1) [true, true], some (fl_e0 (.dup) 1), some (fl_ef (.getfield 45) 3 4 3 0 0 90), none], [none, some (fl_ea (.iload_n 1) 1 1), some (fl_ex1 (.bipush 8) 2 8), none, some (fl_ea (.if_icmp .ne 7) 3 91), none, none, some (fl_ex1 (.iconst 1) 1 1)], [some (fl_ea (.goto 4) 3 92), none, none, some (fl_e0 (.iconst 0) 1), some (fl_e0 (.iadd) 1), some (fl_ef (.putfield 45) 3 4 3 0 0 90), none, none], [some (fl_e0 (.return_) 1)]]]
/-- FaultLists$Net.addInputs(I)V -/
def fl_c22 : List (List (List (Option fl_E))) := [[[some (fl_e0 (.iconst 0) 1), some (fl_ea (.istore_n 2) 1 2), fl_el (fl_ea (.iload_n 2) 1 2) [true, true, true], some (fl_ea (.iload_n 1) 1 1), some (fl_ea (.if_icmp .ge 35) 3 39), none, none, some (fl_e0 (.aload_n 0) 1)], [some (fl_ef (.getfield 39) 3 4 1 0 0 79), none, none, some (fl_ex1 (.bipush 12) 2 12), none, some (fl_ea (.if_icmp .ge 26) 3 39), none, none], [some (fl_e0 (.aload_n 0) 1), some (fl_e0 (.iconst 0) 1), some (fl_ex1 (.iconst (-1)) 1 (-1)), some (fl_ex1 (.iconst (-1)) 1 (-1)), fl_el (fl_ef (.invokevirtual 55) 3 21 4 1 68 351) [true, true, true], none, none, some (fl_e0 (.aload_n 0) 1)], [some (fl_e0 (.dup) 1), some (fl_ef (.getfield 35) 3 4 0 0 0 74), none, none, some (fl_ex1 (.iconst 1) 1 1), some (fl_e0 (.iadd) 1), some (fl_ef (.putfield 35) 3 4 0 0 0 74), none], [none, fl_el (fl_ew (.iinc 2 1) 3 2 0 0 0 0 1 0 []) [true, true, true], none, none, some (fl_ea (.goto (-34)) 3 2), none, none, fl_el (fl_e0 (.return_) 1) []]]]
/-- FaultLists$Net.addOutput(I)V -/
def fl_c23 : List (List (List (Option fl_E))) := [[[some (fl_e0 (.aload_n 0) 1), some (fl_ef (.getfield 32) 3 4 10 2 0 123), none, none, some (fl_e0 (.aload_n 0) 1), some (fl_ef (.getfield 48) 3 4 4 0 0 94), none, none], [some (fl_ea (.iload_n 1) 1 1), some (fl_e0 (.i2l) 1), fl_el (fl_ef (.invokevirtual 59) 3 20 3 1 65 355) [true], none, none, some (fl_e0 (.aload_n 0) 1), some (fl_e0 (.dup) 1), some (fl_ef (.getfield 48) 3 4 4 0 0 94)], [none, none, some (fl_ex1 (.iconst 1) 1 1), some (fl_e0 (.iadd) 1), some (fl_ef (.putfield 48) 3 4 4 0 0 94), none, none, some (fl_e0 (.return_) 1)]]]
/-- FaultLists$Cells.intAt(I)I -/
def fl_c24 : List (List (List (Option fl_E))) := [[[some (fl_ea (.iload_n 1) 1 1), some (fl_ea (.ifCond .lt 22) 3 23), none, none, some (fl_ea (.iload_n 1) 1 1), some (fl_e0 (.aload_n 0) 1), some (fl_ef (.getfield 7) 3 1 0 2 0 45), none], [none, some (fl_ea (.arraylength) 1 3), some (fl_ea (.if_icmp .ge 13) 3 23), none, none, some (fl_e0 (.aload_n 0) 1), some (fl_ef (.getfield 7) 3 1 0 2 0 45), none], [none, some (fl_ea (.iload_n 1) 1 1), some (fl_e0 (.laload) 1), some (fl_e0 (.l2i) 1), some (fl_ea (.goto 4) 3 24), none, none, fl_el (fl_e0 (.iconst 0) 1) []], [some (fl_e0 (.ireturn) 1)]]]
/-- FaultLists$Side.hold(II)V -/
def fl_c25 : List (List (List (Option fl_E))) := [[[some (fl_e0 (.aload_n 0) 1), some (fl_ef (.getfield 23) 3 9 2 2 0 201), none, none, some (fl_ea (.iload_n 1) 1 1), some (fl_ea (.iload_n 2) 1 2), some (fl_ex1 (.iconst 1) 1 1), some (fl_ea (.if_icmp .ne 9) 3 16)], [none, none, some (fl_ew (.ldc2_w 53) 3 0 0 0 0 383 0 (-1) []), none, none, some (fl_ea (.goto 4) 3 17), none, none], [some (fl_e0 (.lconst 0) 1), fl_el (fl_ef (.invokevirtual 55) 3 20 3 1 65 384) [true, true, true], none, none, some (fl_e0 (.aload_n 0) 1), some (fl_ef (.getfield 26) 3 9 3 2 0 204), none, none], [some (fl_ea (.iload_n 1) 1 1), some (fl_ea (.iload_n 2) 1 2), some (fl_ea (.ifCond .ne 9) 3 35), none, none, some (fl_ew (.ldc2_w 53) 3 0 0 0 0 383 0 (-1) []), none, none], [some (fl_ea (.goto 4) 3 36), none, none, some (fl_e0 (.lconst 0) 1), fl_el (fl_ef (.invokevirtual 55) 3 20 3 1 65 384) [], none, none, some (fl_e0 (.return_) 1)]]]
/-- FaultLists$Side.start(LFaultLists$Net;)V -/
def fl_c26 : List (List (List (Option fl_E))) := [[[some (fl_ea (.aload_n 1) 1 1), some (fl_ef (.getfield 33) 3 4 0 0 0 75), none, none, some (fl_ea (.istore_n 2) 1 2), fl_el (fl_ea (.iload_n 2) 1 2) [true, true, true], some (fl_ea (.aload_n 1) 1 1), some (fl_ef (.getfield 39) 3 4 1 0 0 81)], [none, none, some (fl_ea (.if_icmp .ge 22) 3 32), none, none, some (fl_e0 (.aload_n 0) 1), some (fl_ea (.iload_n 2) 1 2), some (fl_ea (.aload_n 1) 1 1)], [some (fl_ef (.getfield 42) 3 4 8 2 0 115), none, none, some (fl_ea (.iload_n 2) 1 2), fl_el (fl_ef (.invokevirtual 45) 3 24 2 1 33 375) [true, true, true], none, none, fl_el (fl_ef (.invokevirtual 49) 3 25 3 1 57 379) [true, true, true]], [none, none, some (fl_ew (.iinc 2 1) 3 2 0 0 0 0 1 0 []), none, none, some (fl_ea (.goto (-24)) 3 5), none, none], [some (fl_e0 (.return_) 1)]]]
/-- FaultLists$Bench.start(LFaultLists$Net;)V -/
def fl_c27 : List (List (List (Option fl_E))) := [[[some (fl_e0 (.aload_n 0) 1), some (fl_ef (.getfield 10) 3 0 0 2 0 216), none, none, some (fl_ea (.aload_n 1) 1 1), fl_el (fl_ef (.invokevirtual 23) 3 26 2 1 57 371) [true, true], none, none], [some (fl_e0 (.aload_n 0) 1), some (fl_ef (.getfield 16) 3 0 1 2 0 219), none, none, some (fl_ea (.aload_n 1) 1 1), fl_el (fl_ef (.invokevirtual 23) 3 26 2 1 57 371) [], none, none], [some (fl_e0 (.return_) 1)]]]
/-- FaultLists$Run.restart()V -/
def fl_c28 : List (List (List (Option fl_E))) := [[[some (fl_e0 (.aload_n 0) 1), some (fl_e0 (.iconst 0) 1), some (fl_ef (.putfield 50) 3 7 3 0 0 235), none, none, fl_el (fl_e0 (.aload_n 0) 1) [true], some (fl_e0 (.lconst 0) 1), some (fl_ef (.putfield 58) 3 7 5 1 0 239)], [none, none, fl_el (fl_e0 (.aload_n 0) 1) [true], some (fl_e0 (.lconst 0) 1), some (fl_ef (.putfield 62) 3 7 6 1 0 241), none, none, fl_el (fl_e0 (.aload_n 0) 1) [true]], [some (fl_e0 (.lconst 0) 1), some (fl_ef (.putfield 65) 3 7 7 1 0 243), none, none, fl_el (fl_e0 (.aload_n 0) 1) [true], some (fl_ef (.getfield 21) 3 7 1 2 0 231), none, none], [some (fl_e0 (.aload_n 0) 1), some (fl_ef (.getfield 12) 3 7 0 2 0 229), none, none, fl_el (fl_ef (.invokevirtual 68) 3 27 2 1 32 367) [], none, none, some (fl_e0 (.return_) 1)]]]
/-- FaultLists.<init>()V -/
def fl_c29 : List (List (List (Option fl_E))) := [[[some (fl_e0 (.aload_n 0) 1), some (fl_ef (.invokespecial 3) 3 0 1 2 0 30), none, none, some (fl_e0 (.aload_n 0) 1), some (fl_ef (.new 9) 3 5 3 0 0 33), none, none], [some (fl_e0 (.dup) 1), some (fl_ex1 (.bipush 80) 2 80), none, fl_el (fl_ef (.invokespecial 11) 3 11 2 2 32 35) [true], none, none, some (fl_ef (.putfield 14) 3 10 0 2 0 385), none], [none, fl_el (fl_e0 (.aload_n 0) 1) [true], some (fl_ef (.new 9) 3 5 3 0 0 33), none, none, some (fl_e0 (.dup) 1), some (fl_ex1 (.bipush 6) 2 6), none], [fl_el (fl_ef (.invokespecial 11) 3 11 2 2 32 35) [true], none, none, some (fl_ef (.putfield 18) 3 10 1 2 0 386), none, none, fl_el (fl_e0 (.aload_n 0) 1) [true], some (fl_ef (.new 21) 3 6 5 0 0 60)], [none, none, some (fl_e0 (.dup) 1), fl_el (fl_ef (.invokespecial 23) 3 13 1 12 16 62) [true], none, none, some (fl_ef (.putfield 24) 3 10 2 2 0 387), none], [none, fl_el (fl_e0 (.aload_n 0) 1) [true], some (fl_ef (.new 28) 3 7 10 0 0 173), none, none, some (fl_e0 (.dup) 1), fl_el (fl_ef (.invokespecial 30) 3 16 1 12 16 175) [true], none], [none, some (fl_ef (.putfield 31) 3 10 3 2 0 388), none, none, fl_el (fl_e0 (.aload_n 0) 1) [true], some (fl_ef (.new 28) 3 7 10 0 0 173), none, none], [some (fl_e0 (.dup) 1), fl_el (fl_ef (.invokespecial 30) 3 16 1 12 16 175) [true], none, none, some (fl_ef (.putfield 35) 3 10 4 2 0 389), none, none, fl_el (fl_e0 (.aload_n 0) 1) [true]]], [[some (fl_ef (.new 28) 3 7 10 0 0 173), none, none, some (fl_e0 (.dup) 1), fl_el (fl_ef (.invokespecial 30) 3 16 1 12 16 175) [true], none, none, some (fl_ef (.putfield 38) 3 10 5 2 0 390)], [none, none, fl_el (fl_e0 (.aload_n 0) 1) [true], some (fl_ef (.new 28) 3 7 10 0 0 173), none, none, some (fl_e0 (.dup) 1), fl_el (fl_ef (.invokespecial 30) 3 16 1 12 16 175) [true]], [none, none, some (fl_ef (.putfield 41) 3 10 8 2 0 393), none, none, fl_el (fl_e0 (.aload_n 0) 1) [true], some (fl_ef (.new 44) 3 0 2 0 0 270), none], [none, some (fl_e0 (.dup) 1), fl_el (fl_ef (.invokespecial 46) 3 15 1 12 16 271) [true], none, none, some (fl_ef (.putfield 47) 3 10 9 2 0 394), none, none], [fl_el (fl_e0 (.aload_n 0) 1) [true], some (fl_ef (.new 51) 3 9 4 0 0 272), none, none, some (fl_e0 (.dup) 1), fl_el (fl_ef (.invokespecial 53) 3 14 1 12 16 273) [true], none, none], [some (fl_ef (.putfield 54) 3 10 10 2 0 395), none, none, fl_el (fl_e0 (.aload_n 0) 1) [true], some (fl_ef (.new 58) 3 2 1 0 0 274), none, none, some (fl_e0 (.dup) 1)], [fl_el (fl_ef (.invokespecial 60) 3 17 1 12 16 276) [true], none, none, some (fl_ef (.putfield 61) 3 10 11 2 0 396), none, none, fl_el (fl_e0 (.aload_n 0) 1) [true], some (fl_ef (.new 65) 3 8 9 0 0 287)], [none, none, some (fl_e0 (.dup) 1), fl_el (fl_ef (.invokespecial 67) 3 19 1 12 16 289) [true], none, none, some (fl_ef (.putfield 68) 3 10 12 2 0 397), none]], [[none, fl_el (fl_e0 (.aload_n 0) 1) [true], some (fl_ef (.getfield 31) 3 10 3 2 0 388), none, none, some (fl_ef (.getfield 72) 3 7 0 2 0 230), none, none], [some (fl_ex1 (.iconst 1) 1 1), fl_el (fl_ef (.invokevirtual 76) 3 22 2 1 52 347) [true], none, none, fl_el (fl_e0 (.aload_n 0) 1) [true], some (fl_ef (.getfield 31) 3 10 3 2 0 388), none, none], [some (fl_ef (.getfield 72) 3 7 0 2 0 230), none, none, some (fl_e0 (.iconst 0) 1), fl_el (fl_ef (.invokevirtual 81) 3 23 2 1 36 359) [true], none, none, fl_el (fl_e0 (.aload_n 0) 1) [true]], [some (fl_ef (.getfield 31) 3 10 3 2 0 388), none, none, fl_el (fl_ef (.invokevirtual 84) 3 28 1 1 23 363) [], none, none, fl_el (fl_e0 (.return_) 1) []]]]
/-- FaultListsModel.<init>()V -/
def fl_c30 : List (List (List (Option fl_E))) := [[[some (fl_e0 (.aload_n 0) 1), some (fl_ef (.invokespecial 53) 3 0 1 2 0 1120), none, none, some (fl_e0 (.aload_n 0) 1), some (fl_ex1 (.bipush 32) 2 32), none, some (fl_ea (.newarray .long) 2 3)], [none, some (fl_ef (.putfield 7) 3 11 2 2 0 1123), none, none, fl_el (fl_e0 (.aload_n 0) 1) [true], some (fl_ex1 (.bipush 80) 2 80), none, some (fl_ea (.newarray .int) 2 2)], [none, some (fl_ef (.putfield 17) 3 11 3 2 0 1124), none, none, fl_el (fl_e0 (.aload_n 0) 1) [true], some (fl_ex1 (.sipush 630) 3 630), none, none], [some (fl_ea (.newarray .int) 2 2), none, some (fl_ef (.putfield 59) 3 11 7 2 0 1128), none, none, fl_el (fl_e0 (.aload_n 0) 1) [true], some (fl_ex1 (.iconst 3) 1 3), some (fl_ea (.newarray .long) 2 3)], [none, some (fl_ef (.putfield 62) 3 11 8 2 0 1129), none, none, fl_el (fl_e0 (.aload_n 0) 1) [true], some (fl_ex1 (.iconst 4) 1 4), some (fl_ea (.newarray .int) 2 2), none], [some (fl_ef (.putfield 65) 3 11 9 2 0 1130), none, none, fl_el (fl_e0 (.aload_n 0) 1) [true], some (fl_ex1 (.iconst 4) 1 4), some (fl_ea (.newarray .int) 2 2), none, some (fl_ef (.putfield 68) 3 11 10 2 0 1131)], [none, none, fl_el (fl_e0 (.aload_n 0) 1) [true], some (fl_ex1 (.bipush 12) 2 12), none, some (fl_ea (.newarray .int) 2 2), none, some (fl_ef (.putfield 71) 3 11 13 2 0 1134)], [none, none, fl_el (fl_e0 (.aload_n 0) 1) [true], some (fl_ex1 (.bipush 12) 2 12), none, some (fl_ea (.newarray .int) 2 2), none, some (fl_ef (.putfield 74) 3 11 14 2 0 1135)]], [[none, none, fl_el (fl_e0 (.aload_n 0) 1) [true], some (fl_ex1 (.bipush 25) 2 25), none, some (fl_ea (.newarray .int) 2 2), none, some (fl_ef (.putfield 77) 3 11 15 2 0 1136)], [none, none, fl_el (fl_e0 (.aload_n 0) 1) [true], some (fl_ex1 (.sipush 300) 3 300), none, none, some (fl_ea (.newarray .int) 2 2), none], [some (fl_ef (.putfield 80) 3 11 17 2 0 1138), none, none, fl_el (fl_e0 (.aload_n 0) 1) [true], some (fl_ex1 (.bipush 12) 2 12), none, some (fl_ea (.newarray .int) 2 2), none], [some (fl_ef (.putfield 83) 3 11 18 2 0 1139), none, none, fl_el (fl_e0 (.aload_n 0) 1) [true], some (fl_ex1 (.bipush 64) 2 64), none, some (fl_ea (.newarray .int) 2 2), none], [some (fl_ef (.putfield 86) 3 11 19 2 0 1140), none, none, fl_el (fl_e0 (.aload_n 0) 1) [true], some (fl_ex1 (.bipush 64) 2 64), none, some (fl_ea (.newarray .int) 2 2), none], [some (fl_ef (.putfield 89) 3 11 20 2 0 1141), none, none, fl_el (fl_e0 (.aload_n 0) 1) [true], some (fl_ex1 (.bipush 64) 2 64), none, some (fl_ea (.newarray .int) 2 2), none], [some (fl_ef (.putfield 92) 3 11 21 2 0 1142), none, none, fl_el (fl_e0 (.aload_n 0) 1) [true], some (fl_ex1 (.sipush 768) 3 768), none, none, some (fl_ea (.newarray .int) 2 2)], [none, some (fl_ef (.putfield 95) 3 11 22 2 0 1143), none, none, fl_el (fl_e0 (.aload_n 0) 1) [true], some (fl_ex1 (.sipush 768) 3 768), none, none]], [[some (fl_ea (.newarray .int) 2 2), none, some (fl_ef (.putfield 98) 3 11 23 2 0 1144), none, none, fl_el (fl_e0 (.aload_n 0) 1) [true], some (fl_ex1 (.bipush 64) 2 64), none], [some (fl_ea (.newarray .int) 2 2), none, some (fl_ef (.putfield 101) 3 11 24 2 0 1145), none, none, fl_el (fl_e0 (.aload_n 0) 1) [true], some (fl_ex1 (.sipush 730) 3 730), none], [none, some (fl_ea (.newarray .int) 2 2), none, some (fl_ef (.putfield 104) 3 11 25 2 0 1146), none, none, fl_el (fl_e0 (.aload_n 0) 1) [true], some (fl_ex1 (.sipush 730) 3 730)], [none, none, some (fl_ea (.newarray .int) 2 2), none, some (fl_ef (.putfield 107) 3 11 26 2 0 1147), none, none, fl_el (fl_e0 (.aload_n 0) 1) [true]], [some (fl_ex1 (.sipush 730) 3 730), none, none, some (fl_ea (.newarray .int) 2 2), none, some (fl_ef (.putfield 110) 3 11 27 2 0 1148), none, none], [fl_el (fl_e0 (.aload_n 0) 1) [true], some (fl_ex1 (.sipush 730) 3 730), none, none, some (fl_ea (.newarray .int) 2 2), none, some (fl_ef (.putfield 113) 3 11 28 2 0 1149), none], [none, fl_el (fl_e0 (.aload_n 0) 1) [true], some (fl_ex1 (.bipush 6) 2 6), none, some (fl_ea (.newarray .int) 2 2), none, some (fl_ef (.putfield 116) 3 11 30 2 0 1151), none], [none, fl_el (fl_e0 (.aload_n 0) 1) [true], some (fl_ex1 (.bipush 64) 2 64), none, some (fl_ea (.newarray .int) 2 2), none, some (fl_ef (.putfield 119) 3 11 31 2 0 1152), none]], [[none, fl_el (fl_e0 (.aload_n 0) 1) [true], some (fl_ex1 (.iconst 2) 1 2), some (fl_ea (.newarray .boolean) 2 4), none, some (fl_ef (.putfield 122) 3 11 33 2 0 1154), none, none], [fl_el (fl_e0 (.aload_n 0) 1) [true], some (fl_ef (.getfield 59) 3 11 7 2 0 1128), none, none, some (fl_e0 (.iconst 0) 1), some (fl_ex1 (.iconst 1) 1 1), some (fl_e0 (.iastore) 1), fl_el (fl_e0 (.aload_n 0) 1) [true]], [some (fl_ef (.getfield 59) 3 11 7 2 0 1128), none, none, some (fl_ex1 (.iconst 1) 1 1), some (fl_ex1 (.iconst 1) 1 1), some (fl_e0 (.iastore) 1), fl_el (fl_e0 (.aload_n 0) 1) [true], some (fl_ef (.getfield 59) 3 11 7 2 0 1128)], [none, none, some (fl_ex1 (.iconst 3) 1 3), some (fl_ex1 (.iconst 1) 1 1), some (fl_e0 (.iastore) 1), fl_el (fl_e0 (.aload_n 0) 1) [true], some (fl_ef (.getfield 59) 3 11 7 2 0 1128), none], [none, some (fl_ex1 (.bipush 40) 2 40), none, some (fl_ex1 (.iconst 2) 1 2), some (fl_e0 (.iastore) 1), fl_el (fl_e0 (.return_) 1) []]]]
/-- FaultLists$Pile.size()I -/
def fl_c31 : List (List (List (Option fl_E))) := [[[some (fl_e0 (.aload_n 0) 1), some (fl_ef (.getfield 22) 3 5 2 0 0 52), none, none, some (fl_e0 (.ireturn) 1)]]]
/-- FaultLists$Pile.add(J)V -/
def fl_c32 : List (List (List (Option fl_E))) := [[[some (fl_e0 (.aload_n 0) 1), some (fl_ef (.getfield 22) 3 5 2 0 0 52), none, none, some (fl_e0 (.aload_n 0) 1), some (fl_ef (.getfield 7) 3 5 1 0 0 51), none, none], [some (fl_ea (.if_icmp .ge 25) 3 33), none, none, some (fl_e0 (.aload_n 0) 1), some (fl_ef (.getfield 18) 3 5 0 2 0 50), none, none, some (fl_e0 (.aload_n 0) 1)], [some (fl_ef (.getfield 22) 3 5 2 0 0 52), none, none, some (fl_ea (.lload_n 1) 1 1), fl_el (fl_ef (.invokevirtual 33) 3 20 3 1 65 437) [true], none, none, some (fl_e0 (.aload_n 0) 1)], [some (fl_e0 (.dup) 1), some (fl_ef (.getfield 22) 3 5 2 0 0 52), none, none, some (fl_ex1 (.iconst 1) 1 1), some (fl_e0 (.iadd) 1), some (fl_ef (.putfield 22) 3 5 2 0 0 52), none], [none, fl_el (fl_e0 (.return_) 1) []]]]
/-- FaultLists.sign(I)I -/
def fl_c33 : List (List (List (Option fl_E))) := [[[some (fl_e0 (.aload_n 0) 1), some (fl_ef (.getfield 14) 3 10 0 2 0 385), none, none, fl_el (fl_ef (.invokevirtual 87) 3 31 1 1 21 429) [true, true], none, none, some (fl_ex1 (.iconst 4) 1 4)], [some (fl_e0 (.iadd) 1), some (fl_ex1 (.bipush 80) 2 80), none, some (fl_ea (.if_icmp .le 5) 3 16), none, none, some (fl_ex1 (.iconst (-1)) 1 (-1)), some (fl_e0 (.ireturn) 1)], [some (fl_ex1 (.bipush 24) 2 24), none, some (fl_ea (.istore_n 2) 1 2), fl_el (fl_ea (.iload_n 2) 1 2) [true, true, true], some (fl_ea (.ifCond .lt 24) 3 44), none, none, some (fl_e0 (.aload_n 0) 1)], [some (fl_ef (.getfield 14) 3 10 0 2 0 385), none, none, some (fl_ea (.iload_n 1) 1 1), some (fl_ea (.iload_n 2) 1 2), some (fl_e0 (.iushr) 1), some (fl_ex1 (.sipush 255) 3 255), none], [none, some (fl_e0 (.iand) 1), some (fl_e0 (.i2l) 1), fl_el (fl_ef (.invokevirtual 91) 3 32 2 1 53 433) [true, true, true], none, none, some (fl_ew (.iinc 2 (-8)) 3 2 0 0 0 0 (-8) 0 []), none], [none, some (fl_ea (.goto (-22)) 3 19), none, none, some (fl_e0 (.aload_n 0) 1), some (fl_ef (.getfield 14) 3 10 0 2 0 385), none, none], [fl_el (fl_ef (.invokevirtual 87) 3 31 1 1 21 429) [], none, none, some (fl_e0 (.ireturn) 1)]]]
/-- FaultListsModel.sign(I)I -/
def fl_c34 : List (List (List (Option fl_E))) := [[[some (fl_e0 (.aload_n 0) 1), some (fl_e0 (.iconst 0) 1), some (fl_ef (.putfield 3) 3 11 0 0 0 1121), none, none, fl_el (fl_e0 (.aload_n 0) 1) [true, true], some (fl_ef (.getfield 14) 3 11 4 0 0 1125), none], [none, some (fl_ex1 (.bipush 76) 2 76), none, some (fl_ea (.if_icmp .le 5) 3 16), none, none, some (fl_ex1 (.iconst (-1)) 1 (-1)), some (fl_e0 (.ireturn) 1)], [some (fl_e0 (.iconst 0) 1), some (fl_ea (.istore_n 2) 1 2), fl_el (fl_ea (.iload_n 2) 1 2) [true, true, true], some (fl_ex1 (.iconst 4) 1 4), some (fl_ea (.if_icmp .ge 33) 3 53), none, none, some (fl_e0 (.aload_n 0) 1)], [some (fl_ef (.getfield 17) 3 11 3 2 0 1124), none, none, some (fl_e0 (.aload_n 0) 1), some (fl_ef (.getfield 14) 3 11 4 0 0 1125), none, none, some (fl_ea (.iload_n 2) 1 2)], [some (fl_e0 (.iadd) 1), some (fl_ea (.iload_n 1) 1 1), some (fl_ex1 (.bipush 24) 2 24), none, some (fl_ex1 (.bipush 8) 2 8), none, some (fl_ea (.iload_n 2) 1 2), some (fl_e0 (.imul) 1)], [some (fl_e0 (.isub) 1), some (fl_e0 (.ishr) 1), some (fl_ex1 (.sipush 255) 3 255), none, none, some (fl_e0 (.iand) 1), some (fl_e0 (.iastore) 1), fl_el (fl_ew (.iinc 2 1) 3 2 0 0 0 0 1 0 []) [true, true, true]], [none, none, some (fl_ea (.goto (-32)) 3 18), none, none, some (fl_e0 (.aload_n 0) 1), some (fl_e0 (.dup) 1), some (fl_ef (.getfield 14) 3 11 4 0 0 1125)], [none, none, some (fl_ex1 (.iconst 4) 1 4), some (fl_e0 (.iadd) 1), some (fl_ef (.putfield 14) 3 11 4 0 0 1125), none, none, fl_el (fl_e0 (.aload_n 0) 1) [true]]], [[some (fl_ef (.getfield 14) 3 11 4 0 0 1125), none, none, some (fl_e0 (.ireturn) 1)]]]
/-- FaultLists$Pile.cut(I)Z -/
def fl_c35 : List (List (List (Option fl_E))) := [[[some (fl_ea (.iload_n 1) 1 1), some (fl_ea (.ifCond .lt 11) 3 12), none, none, some (fl_ea (.iload_n 1) 1 1), some (fl_e0 (.aload_n 0) 1), some (fl_ef (.getfield 22) 3 5 2 0 0 52), none], [none, some (fl_ea (.if_icmp .le 5) 3 14), none, none, fl_el (fl_e0 (.iconst 0) 1) [], some (fl_ef (.ireturn) 1 0 0 3 0 0), some (fl_e0 (.aload_n 0) 1), some (fl_ea (.iload_n 1) 1 1)], [some (fl_ef (.putfield 22) 3 5 2 0 0 52), none, none, fl_el (fl_ex1 (.iconst 1) 1 1) [], some (fl_ef (.ireturn) 1 0 0 3 0 0)]]]
/-- FaultLists.end(I)Z -/
def fl_c36 : List (List (List (Option fl_E))) := [[[some (fl_e0 (.aload_n 0) 1), some (fl_ef (.getfield 14) 3 10 0 2 0 385), none, none, some (fl_ea (.iload_n 1) 1 1), fl_el (fl_ef (.invokevirtual 95) 3 35 2 1 37 442) [], none, none], [some (fl_ef (.ireturn) 1 0 0 3 0 0)]]]
/-- FaultListsModel.in(JJJ)Z -/
def fl_c37 : List (List (List (Option fl_E))) := [[[some (fl_e0 (.lload_n 0) 1), some (fl_ea (.lload_n 2) 1 2), some (fl_e0 (.lcmp) 1), some (fl_ea (.ifCond .lt 14) 3 17), none, none, some (fl_e0 (.lload_n 0) 1), some (fl_ea (.lload 4) 2 4)], [none, some (fl_e0 (.lcmp) 1), some (fl_ea (.ifCond .gt 7) 3 17), none, none, some (fl_ex1 (.iconst 1) 1 1), some (fl_ea (.goto 4) 3 18), none], [none, fl_el (fl_e0 (.iconst 0) 1) [], some (fl_ef (.ireturn) 1 0 0 3 0 0)]]]
/-- FaultListsModel.end(I)Z -/
def fl_c38 : List (List (List (Option fl_E))) := [[[some (fl_e0 (.aload_n 0) 1), some (fl_e0 (.iconst 0) 1), some (fl_ef (.putfield 3) 3 11 0 0 0 1121), none, none, fl_el (fl_ea (.iload_n 1) 1 1) [true, true], some (fl_e0 (.i2l) 1), some (fl_e0 (.lconst 0) 1)], [some (fl_e0 (.aload_n 0) 1), some (fl_ef (.getfield 14) 3 11 4 0 0 1125), none, none, some (fl_e0 (.i2l) 1), fl_el (fl_ef (.invokestatic 21) 3 37 3 0 96 1112) [true, true], none, none], [some (fl_ea (.ifCond .ne 5) 3 21), none, none, some (fl_e0 (.iconst 0) 1), some (fl_ef (.ireturn) 1 0 0 3 0 0), some (fl_e0 (.aload_n 0) 1), some (fl_ea (.iload_n 1) 1 1), some (fl_ef (.putfield 14) 3 11 4 0 0 1125)], [none, none, fl_el (fl_ex1 (.iconst 1) 1 1) [], some (fl_ef (.ireturn) 1 0 0 3 0 0)]]]
/-- FaultLists$Net.clear()V -/
def fl_c39 : List (List (List (Option fl_E))) := [[[some (fl_e0 (.aload_n 0) 1), some (fl_e0 (.iconst 0) 1), some (fl_ef (.putfield 35) 3 4 0 0 0 74), none, none, fl_el (fl_e0 (.aload_n 0) 1) [true], some (fl_e0 (.iconst 0) 1), some (fl_ef (.putfield 39) 3 4 1 0 0 79)], [none, none, fl_el (fl_e0 (.aload_n 0) 1) [true], some (fl_e0 (.iconst 0) 1), some (fl_ef (.putfield 42) 3 4 2 0 0 86), none, none, fl_el (fl_e0 (.aload_n 0) 1) [true]], [some (fl_e0 (.iconst 0) 1), some (fl_ef (.putfield 45) 3 4 3 0 0 90), none, none, fl_el (fl_e0 (.aload_n 0) 1) [true], some (fl_e0 (.iconst 0) 1), some (fl_ef (.putfield 48) 3 4 4 0 0 94), none], [none, some (fl_e0 (.return_) 1)]]]
/-- FaultLists$Pile.clear()V -/
def fl_c40 : List (List (List (Option fl_E))) := [[[some (fl_e0 (.aload_n 0) 1), some (fl_e0 (.iconst 0) 1), some (fl_ef (.putfield 22) 3 5 2 0 0 52), none, none, some (fl_e0 (.return_) 1)]]]
/-- FaultLists$Pile.intAt(I)I -/
def fl_c41 : List (List (List (Option fl_E))) := [[[some (fl_e0 (.aload_n 0) 1), some (fl_ef (.getfield 18) 3 5 0 2 0 50), none, none, some (fl_ea (.iload_n 1) 1 1), fl_el (fl_ef (.invokevirtual 29) 3 24 2 1 33 475) [], none, none], [some (fl_e0 (.ireturn) 1)]]]
/-- FaultLists$Reader.signOf(LFaultLists$Pile;)I -/
def fl_c42 : List (List (List (Option fl_E))) := [[[some (fl_e0 (.aload_n 0) 1), some (fl_ef (.getfield 34) 3 6 3 0 0 160), none, none, some (fl_ea (.aload_n 1) 1 1), fl_el (fl_ef (.invokevirtual 60) 3 31 1 1 21 470) [true, true], none, none], [some (fl_ea (.if_icmp .ge 14) 3 22), none, none, some (fl_ea (.aload_n 1) 1 1), some (fl_e0 (.aload_n 0) 1), some (fl_ef (.getfield 34) 3 6 3 0 0 160), none, none], [fl_el (fl_ef (.invokevirtual 63) 3 41 2 1 37 471) [], none, none, some (fl_ea (.goto 4) 3 23), none, none, some (fl_ex1 (.iconst (-1)) 1 (-1)), some (fl_e0 (.ireturn) 1)]]]
/-- FaultLists$Reader.because(II)V -/
def fl_c43 : List (List (List (Option fl_E))) := [[[some (fl_e0 (.aload_n 0) 1), some (fl_ef (.getfield 23) 3 6 1 2 0 156), none, none, some (fl_ea (.iload_n 1) 1 1), some (fl_e0 (.i2l) 1), fl_el (fl_ef (.invokevirtual 140) 3 32 2 1 53 484) [true, false, true], none], [none, some (fl_e0 (.aload_n 0) 1), some (fl_ef (.getfield 27) 3 6 2 2 0 158), none, none, some (fl_ea (.iload_n 2) 1 2), some (fl_e0 (.i2l) 1), fl_el (fl_ef (.invokevirtual 140) 3 32 2 1 53 484) []], [none, none, some (fl_e0 (.return_) 1)]]]
/-- FaultLists$Reader.refuse(ZII)V -/
def fl_c44 : List (List (List (Option fl_E))) := [[[some (fl_e0 (.aload_n 0) 1), some (fl_ex1 (.iconst 1) 1 1), some (fl_ef (.putfield 38) 3 6 4 3 0 161), none, none, fl_el (fl_e0 (.aload_n 0) 1) [true, true, true, true], some (fl_ex1 (.iconst 1) 1 1), some (fl_e0 (.aload_n 0) 1)], [some (fl_ef (.getfield 12) 3 6 0 2 0 154), none, none, some (fl_ef (.getfield 81) 3 4 1 0 0 83), none, none, fl_el (fl_ef (.invokevirtual 133) 3 43 3 1 54 480) [true, true, true, true], none], [none, some (fl_ea (.iload_n 1) 1 1), some (fl_ea (.ifCond .eq 15) 3 33), none, none, some (fl_e0 (.aload_n 0) 1), some (fl_ex1 (.iconst 2) 1 2), some (fl_e0 (.aload_n 0) 1)], [some (fl_ef (.getfield 12) 3 6 0 2 0 154), none, none, some (fl_ef (.getfield 81) 3 4 1 0 0 83), none, none, fl_el (fl_ef (.invokevirtual 133) 3 43 3 1 54 480) [true, false, true, true], none], [none, fl_el (fl_e0 (.aload_n 0) 1) [true, false, true, true], some (fl_ea (.iload_n 2) 1 2), some (fl_ea (.iload_n 3) 1 3), fl_el (fl_ef (.invokevirtual 133) 3 43 3 1 54 480) [true, false, true], none, none, some (fl_ea (.iload_n 2) 1 2)], [some (fl_ex1 (.iconst 5) 1 5), some (fl_ea (.if_icmp .ne 12) 3 53), none, none, some (fl_e0 (.aload_n 0) 1), some (fl_ex1 (.iconst 3) 1 3), some (fl_e0 (.aload_n 0) 1), some (fl_ef (.getfield 34) 3 6 3 0 0 160)], [none, none, fl_el (fl_ef (.invokevirtual 133) 3 43 3 1 54 480) [], none, none, fl_el (fl_e0 (.return_) 1) []]]]
/-- FaultLists$Reader.readInputs(LFaultLists$Pile;)V -/
def fl_c45 : List (List (List (Option fl_E))) := [[[some (fl_e0 (.aload_n 0) 1), some (fl_ea (.aload_n 1) 1 1), fl_el (fl_ef (.invokevirtual 46) 3 42 2 1 38 466) [true], none, none, some (fl_ea (.istore_n 2) 1 2), some (fl_ea (.iload_n 2) 1 2), some (fl_ex1 (.bipush 49) 2 49)], [none, some (fl_ea (.if_icmp .lt 9) 3 18), none, none, some (fl_ea (.iload_n 2) 1 2), some (fl_ex1 (.bipush 52) 2 52), none, some (fl_ea (.if_icmp .le 14) 3 29)], [none, none, fl_el (fl_e0 (.aload_n 0) 1) [true], some (fl_e0 (.iconst 0) 1), some (fl_ex1 (.iconst 3) 1 3), some (fl_e0 (.aload_n 0) 1), some (fl_ef (.getfield 34) 3 6 3 0 0 160), none], [none, fl_el (fl_ef (.invokevirtual 67) 3 44 4 1 70 476) [], none, none, some (fl_e0 (.return_) 1), some (fl_e0 (.aload_n 0) 1), some (fl_ef (.getfield 12) 3 6 0 2 0 154), none], [none, some (fl_ea (.iload_n 2) 1 2), some (fl_ex1 (.bipush 48) 2 48), none, some (fl_e0 (.isub) 1), fl_el (fl_ef (.invokevirtual 71) 3 22 2 1 52 485) [true], none, none], [some (fl_e0 (.aload_n 0) 1), some (fl_e0 (.dup) 1), some (fl_ef (.getfield 34) 3 6 3 0 0 160), none, none, some (fl_ex1 (.iconst 1) 1 1), some (fl_e0 (.iadd) 1), some (fl_ef (.putfield 34) 3 6 3 0 0 160)], [none, none, some (fl_e0 (.return_) 1)]]]
/-- java/lang/String.isLatin1()Z -/
def fl_c46 : List (List (List (Option fl_E))) := [[[some (fl_ew (.getstatic 38) 3 0 0 0 0 503 1 0 []), none, none, some (fl_ea (.ifCond .eq 14) 3 17), none, none, some (fl_e0 (.aload_n 0) 1), some (fl_ef (.getfield 15) 3 0 0 8 0 1627)], [none, none, some (fl_ea (.ifCond .ne 7) 3 17), none, none, some (fl_ex1 (.iconst 1) 1 1), some (fl_ea (.goto 4) 3 18), none], [none, fl_el (fl_e0 (.iconst 0) 1) [], some (fl_ef (.ireturn) 1 0 0 3 0 0)]]]
/-- java/lang/String.coder()B -/
def fl_c47 : List (List (List (Option fl_E))) := [[[some (fl_ew (.getstatic 38) 3 0 0 0 0 503 1 0 []), none, none, some (fl_ea (.ifCond .eq 10) 3 13), none, none, some (fl_e0 (.aload_n 0) 1), some (fl_ef (.getfield 15) 3 0 0 8 0 1627)], [none, none, some (fl_ea (.goto 4) 3 14), none, none, some (fl_ex1 (.iconst 1) 1 1), some (fl_ef (.ireturn) 1 0 0 5 0 0)]]]
/-- java/lang/String.length()I -/
def fl_c48 : List (List (List (Option fl_E))) := [[[some (fl_e0 (.aload_n 0) 1), some (fl_ef (.getfield 9) 3 0 0 7 0 1628), none, none, some (fl_ea (.arraylength) 1 5), some (fl_e0 (.aload_n 0) 1), fl_el (fl_ef (.invokevirtual 335) 3 47 1 3 16 509) [], none], [none, some (fl_e0 (.ishr) 1), some (fl_e0 (.ireturn) 1)]]]
/-- java/lang/StringLatin1.canEncode(I)Z -/
def fl_c49 : List (List (List (Option fl_E))) := [[[some (fl_e0 (.iload_n 0) 1), some (fl_ea (.ifCond .lt 14) 3 15), none, none, some (fl_e0 (.iload_n 0) 1), some (fl_ex1 (.sipush 255) 3 255), none, none], [some (fl_ea (.if_icmp .gt 7) 3 15), none, none, some (fl_ex1 (.iconst 1) 1 1), some (fl_ea (.goto 4) 3 16), none, none, fl_el (fl_e0 (.iconst 0) 1) []], [some (fl_ef (.ireturn) 1 0 0 3 0 0)]]]
/-- java/lang/Math.max(II)I -/
def fl_c50 : List (List (List (Option fl_E))) := [[[some (fl_e0 (.iload_n 0) 1), some (fl_ea (.iload_n 1) 1 1), some (fl_ea (.if_icmp .lt 7) 3 9), none, none, some (fl_e0 (.iload_n 0) 1), some (fl_ea (.goto 4) 3 10), none], [none, some (fl_ea (.iload_n 1) 1 1), some (fl_e0 (.ireturn) 1)]]]
/-- java/lang/Math.min(II)I -/
def fl_c51 : List (List (List (Option fl_E))) := [[[some (fl_e0 (.iload_n 0) 1), some (fl_ea (.iload_n 1) 1 1), some (fl_ea (.if_icmp .gt 7) 3 9), none, none, some (fl_e0 (.iload_n 0) 1), some (fl_ea (.goto 4) 3 10), none], [none, some (fl_ea (.iload_n 1) 1 1), some (fl_e0 (.ireturn) 1)]]]
/-- java/lang/StringLatin1.indexOfChar([BIII)I -/
def fl_c52 : List (List (List (Option fl_E))) := [[[some (fl_ea (.iload_n 1) 1 1), some (fl_e0 (.i2b) 1), some (fl_ea (.istore 4) 2 4), none, some (fl_ea (.iload_n 2) 1 2), some (fl_ea (.istore 5) 2 5), none, fl_el (fl_ea (.iload 5) 2 5) [true, false, false, true, true, true]], [none, some (fl_ea (.iload_n 3) 1 3), some (fl_ea (.if_icmp .ge 21) 3 31), none, none, some (fl_e0 (.aload_n 0) 1), some (fl_ea (.iload 5) 2 5), none], [some (fl_ea (.baload) 1 5), some (fl_ea (.iload 4) 2 4), none, some (fl_ea (.if_icmp .ne 6) 3 25), none, none, some (fl_ea (.iload 5) 2 5), none], [some (fl_e0 (.ireturn) 1), some (fl_ew (.iinc 5 1) 3 5 0 0 0 0 1 0 []), none, none, some (fl_ea (.goto (-21)) 3 7), none, none, some (fl_ex1 (.iconst (-1)) 1 (-1))], [some (fl_e0 (.ireturn) 1)]]]
/-- java/lang/StringLatin1.indexOf([BIII)I -/
def fl_c53 : List (List (List (Option fl_E))) := [[[some (fl_ea (.iload_n 1) 1 1), fl_el (fl_ef (.invokestatic 88) 3 49 1 0 16 516) [true, true, true, true], none, none, some (fl_ea (.ifCond .ne 5) 3 9), none, none, some (fl_ex1 (.iconst (-1)) 1 (-1))], [some (fl_e0 (.ireturn) 1), some (fl_ea (.iload_n 2) 1 2), some (fl_e0 (.iconst 0) 1), fl_el (fl_ef (.invokestatic 92) 3 50 2 0 32 519) [true, true, false, true], none, none, some (fl_ea (.istore_n 2) 1 2), some (fl_ea (.iload_n 3) 1 3)], [some (fl_e0 (.aload_n 0) 1), some (fl_ea (.arraylength) 1 5), fl_el (fl_ef (.invokestatic 38) 3 51 2 0 32 522) [true, true, true], none, none, some (fl_ea (.istore_n 3) 1 3), some (fl_ea (.iload_n 2) 1 2), some (fl_ea (.iload_n 3) 1 3)], [some (fl_ea (.if_icmp .lt 5) 3 29), none, none, some (fl_ex1 (.iconst (-1)) 1 (-1)), some (fl_e0 (.ireturn) 1), some (fl_e0 (.aload_n 0) 1), some (fl_ea (.iload_n 1) 1 1), some (fl_ea (.iload_n 2) 1 2)], [some (fl_ea (.iload_n 3) 1 3), fl_el (fl_ef (.invokestatic 95) 3 52 4 0 96 525) [], none, none, some (fl_e0 (.ireturn) 1)]]]
/-- java/lang/String.indexOf(II)I -/
def fl_c54 : List (List (List (Option fl_E))) := [[[some (fl_e0 (.aload_n 0) 1), fl_el (fl_ef (.invokevirtual 492) 3 46 1 3 16 499) [true, true, true], none, none, some (fl_ea (.ifCond .eq 19) 3 23), none, none, some (fl_e0 (.aload_n 0) 1)], [some (fl_ef (.getfield 9) 3 0 0 7 0 1628), none, none, some (fl_ea (.iload_n 1) 1 1), some (fl_ea (.iload_n 2) 1 2), some (fl_e0 (.aload_n 0) 1), fl_el (fl_ef (.invokevirtual 505) 3 48 1 3 16 505) [], none], [none, fl_el (fl_ef (.invokestatic 637) 3 53 4 0 64 513) [], none, none, some (fl_ea (.goto 16) 3 36), none, none, some (fl_e0 (.aload_n 0) 1)], [some (fl_ef (.getfield 9) 3 0 0 7 0 1628), none, none, some (fl_ea (.iload_n 1) 1 1), some (fl_ea (.iload_n 2) 1 2), some (fl_e0 (.aload_n 0) 1), fl_el (fl_ef (.invokevirtual 505) 3 48 1 3 16 505) [], none], [none, fl_el (fl_ef (.invokestatic 640) 3 9999 4 0 0 528) [], none, none, some (fl_e0 (.ireturn) 1)]]]
/-- java/lang/String.indexOf(I)I -/
def fl_c55 : List (List (List (Option fl_E))) := [[[some (fl_e0 (.aload_n 0) 1), some (fl_ea (.iload_n 1) 1 1), some (fl_e0 (.iconst 0) 1), fl_el (fl_ef (.invokevirtual 633) 3 54 3 3 48 495) [], none, none, some (fl_e0 (.ireturn) 1)]]]
/-- FaultLists$Reader.letterOf(LFaultLists$Pile;)I -/
def fl_c56 : List (List (List (Option fl_E))) := [[[some (fl_e0 (.aload_n 0) 1), some (fl_ea (.aload_n 1) 1 1), fl_el (fl_ef (.invokevirtual 46) 3 42 2 1 38 466) [], none, none, some (fl_ex1 (.bipush 97) 2 97), none, some (fl_e0 (.isub) 1)], [some (fl_ea (.istore_n 2) 1 2), some (fl_ea (.iload_n 2) 1 2), some (fl_ea (.ifCond .lt 13) 3 23), none, none, some (fl_ea (.iload_n 2) 1 2), some (fl_ex1 (.bipush 12) 2 12), none], [some (fl_ea (.if_icmp .ge 7) 3 23), none, none, some (fl_ea (.iload_n 2) 1 2), some (fl_ea (.goto 4) 3 24), none, none, fl_el (fl_ex1 (.iconst (-1)) 1 (-1)) []], [some (fl_e0 (.ireturn) 1)]]]
/-- FaultLists$Net.addPin(I)V -/
def fl_c57 : List (List (List (Option fl_E))) := [[[some (fl_e0 (.aload_n 0) 1), some (fl_ef (.getfield 29) 3 4 9 2 0 118), none, none, some (fl_e0 (.aload_n 0) 1), some (fl_ef (.getfield 42) 3 4 2 0 0 86), none, none], [some (fl_ea (.iload_n 1) 1 1), some (fl_e0 (.i2l) 1), fl_el (fl_ef (.invokevirtual 59) 3 20 3 1 65 355) [true], none, none, some (fl_e0 (.aload_n 0) 1), some (fl_e0 (.dup) 1), some (fl_ef (.getfield 42) 3 4 2 0 0 86)], [none, none, some (fl_ex1 (.iconst 1) 1 1), some (fl_e0 (.iadd) 1), some (fl_ef (.putfield 42) 3 4 2 0 0 86), none, none, some (fl_e0 (.return_) 1)]]]
/-- FaultLists$Reader.readPin(LFaultLists$Pile;I)V -/
def fl_c58 : List (List (List (Option fl_E))) := [[[some (fl_e0 (.aload_n 0) 1), some (fl_ea (.aload_n 1) 1 1), fl_el (fl_ef (.invokevirtual 94) 3 56 2 1 54 581) [true, false, true], none, none, some (fl_ea (.istore_n 3) 1 3), some (fl_ea (.iload_n 3) 1 3), some (fl_ex1 (.iconst (-1)) 1 (-1))], [some (fl_ea (.if_icmp .ne 16) 3 24), none, none, some (fl_e0 (.aload_n 0) 1), some (fl_ex1 (.iconst 1) 1 1), some (fl_ex1 (.iconst 3) 1 3), some (fl_e0 (.aload_n 0) 1), some (fl_ef (.getfield 34) 3 6 3 0 0 160)], [none, none, fl_el (fl_ef (.invokevirtual 67) 3 44 4 1 70 476) [], none, none, some (fl_ea (.goto 73) 3 94), none, none], [some (fl_ea (.iload_n 2) 1 2), some (fl_ex1 (.bipush 8) 2 8), none, some (fl_ea (.if_icmp .eq 24) 3 51), none, none, some (fl_ea (.iload_n 3) 1 3), some (fl_e0 (.aload_n 0) 1)], [some (fl_ef (.getfield 12) 3 6 0 2 0 154), none, none, some (fl_ef (.getfield 81) 3 4 1 0 0 83), none, none, some (fl_ea (.if_icmp .lt 13) 3 51), none], [none, some (fl_e0 (.aload_n 0) 1), some (fl_ex1 (.iconst 1) 1 1), some (fl_ex1 (.iconst 5) 1 5), some (fl_ea (.iload_n 3) 1 3), fl_el (fl_ef (.invokevirtual 67) 3 44 4 1 70 476) [], none, none], [some (fl_ea (.goto 46) 3 94), none, none, fl_el (fl_e0 (.aload_n 0) 1) [true, false, false, true], some (fl_ef (.getfield 12) 3 6 0 2 0 154), none, none, some (fl_ef (.getfield 87) 3 4 2 0 0 88)], [none, none, some (fl_ex1 (.bipush 20) 2 20), none, some (fl_ea (.if_icmp .lt 16) 3 76), none, none, some (fl_e0 (.aload_n 0) 1)]], [[some (fl_ex1 (.iconst 1) 1 1), some (fl_ex1 (.iconst 4) 1 4), some (fl_e0 (.aload_n 0) 1), some (fl_ef (.getfield 34) 3 6 3 0 0 160), none, none, fl_el (fl_ef (.invokevirtual 67) 3 44 4 1 70 476) [], none], [none, some (fl_ea (.goto 21) 3 94), none, none, some (fl_e0 (.aload_n 0) 1), some (fl_ef (.getfield 12) 3 6 0 2 0 154), none, none], [some (fl_ea (.iload_n 3) 1 3), fl_el (fl_ef (.invokevirtual 104) 3 57 2 1 36 585) [true], none, none, some (fl_e0 (.aload_n 0) 1), some (fl_e0 (.dup) 1), some (fl_ef (.getfield 34) 3 6 3 0 0 160), none], [none, some (fl_ex1 (.iconst 1) 1 1), some (fl_e0 (.iadd) 1), some (fl_ef (.putfield 34) 3 6 3 0 0 160), none, none, fl_el (fl_e0 (.return_) 1) []]]]
/-- FaultLists$Reader.readStart(LFaultLists$Pile;)I -/
def fl_c59 : List (List (List (Option fl_E))) := [[[some (fl_e0 (.aload_n 0) 1), some (fl_ea (.aload_n 1) 1 1), fl_el (fl_ef (.invokevirtual 46) 3 42 2 1 38 466) [true], none, none, some (fl_ea (.istore_n 2) 1 2), some (fl_ea (.iload_n 2) 1 2), some (fl_ex1 (.bipush 48) 2 48)], [none, some (fl_ea (.if_icmp .eq 11) 3 20), none, none, some (fl_ea (.iload_n 2) 1 2), some (fl_ex1 (.bipush 49) 2 49), none, some (fl_ea (.if_icmp .eq 5) 3 20)], [none, none, some (fl_ex1 (.iconst 2) 1 2), some (fl_e0 (.ireturn) 1), fl_el (fl_e0 (.aload_n 0) 1) [true, false, true], some (fl_e0 (.dup) 1), some (fl_ef (.getfield 34) 3 6 3 0 0 160), none], [none, some (fl_ex1 (.iconst 1) 1 1), some (fl_e0 (.iadd) 1), some (fl_ef (.putfield 34) 3 6 3 0 0 160), none, none, fl_el (fl_ea (.iload_n 2) 1 2) [false, false, true], some (fl_ex1 (.bipush 48) 2 48)], [none, some (fl_e0 (.isub) 1), some (fl_e0 (.ireturn) 1)]]]
/-- FaultLists$Reader.readLine(LFaultLists$Pile;)V -/
def fl_c60 : List (List (List (Option fl_E))) := [[[some (fl_e0 (.aload_n 0) 1), some (fl_ea (.aload_n 1) 1 1), fl_el (fl_ef (.invokevirtual 46) 3 42 2 1 38 466) [true, true], none, none, some (fl_ea (.istore_n 2) 1 2), some (fl_ea (.iload_n 2) 1 2), some (fl_ex1 (.iconst (-1)) 1 (-1))], [some (fl_ea (.if_icmp .ne 7) 3 15), none, none, some (fl_e0 (.iconst 0) 1), some (fl_ea (.goto 12) 3 24), none, none, some (fl_ex1 (.iconst 1) 1 1)], [some (fl_ef (.ldc 74) 2 1048576 0 1 0 490), none, some (fl_ea (.iload_n 2) 1 2), some (fl_e0 (.i2c) 1), fl_el (fl_ef (.invokevirtual 76) 3 55 2 3 32 491) [true, true], none, none, some (fl_e0 (.iadd) 1)], [some (fl_ea (.istore_n 3) 1 3), some (fl_ea (.iload_n 3) 1 3), some (fl_ea (.ifCond .ne 14) 3 40), none, none, some (fl_e0 (.aload_n 0) 1), some (fl_e0 (.iconst 0) 1), some (fl_ex1 (.iconst 3) 1 3)], [some (fl_e0 (.aload_n 0) 1), some (fl_ef (.getfield 34) 3 6 3 0 0 160), none, none, fl_el (fl_ef (.invokevirtual 67) 3 44 4 1 70 476) [], none, none, some (fl_e0 (.return_) 1)], [some (fl_e0 (.aload_n 0) 1), some (fl_ef (.getfield 12) 3 6 0 2 0 154), none, none, some (fl_ef (.getfield 81) 3 4 1 0 0 83), none, none, some (fl_ex1 (.bipush 12) 2 12)], [none, some (fl_ea (.if_icmp .ge 20) 3 69), none, none, some (fl_ea (.iload_n 3) 1 3), some (fl_ex1 (.bipush 8) 2 8), none, some (fl_ea (.if_icmp .ne 25) 3 80)], [none, none, some (fl_e0 (.aload_n 0) 1), some (fl_ef (.getfield 12) 3 6 0 2 0 154), none, none, some (fl_ef (.getfield 84) 3 4 3 0 0 91), none]], [[none, some (fl_ex1 (.iconst 3) 1 3), some (fl_ea (.if_icmp .lt 14) 3 80), none, none, fl_el (fl_e0 (.aload_n 0) 1) [true], some (fl_ex1 (.iconst 1) 1 1), some (fl_ex1 (.iconst 4) 1 4)], [some (fl_e0 (.aload_n 0) 1), some (fl_ef (.getfield 34) 3 6 3 0 0 160), none, none, fl_el (fl_ef (.invokevirtual 67) 3 44 4 1 70 476) [], none, none, some (fl_e0 (.return_) 1)], [fl_el (fl_e0 (.aload_n 0) 1) [true, true, false, true], some (fl_e0 (.dup) 1), some (fl_ef (.getfield 34) 3 6 3 0 0 160), none, none, some (fl_ex1 (.iconst 1) 1 1), some (fl_e0 (.iadd) 1), some (fl_ef (.putfield 34) 3 6 3 0 0 160)], [none, none, fl_el (fl_e0 (.aload_n 0) 1) [true, true, false, true], some (fl_ef (.getfield 12) 3 6 0 2 0 154), none, none, some (fl_ef (.getfield 87) 3 4 2 0 0 88), none], [none, some (fl_ea (.istore 4) 2 4), none, some (fl_ea (.iload_n 3) 1 3), some (fl_ex1 (.iconst 1) 1 1), some (fl_ea (.if_icmp .eq 14) 3 115), none, none], [some (fl_ea (.iload_n 3) 1 3), some (fl_ex1 (.iconst 2) 1 2), some (fl_ea (.if_icmp .eq 9) 3 115), none, none, some (fl_ea (.iload_n 3) 1 3), some (fl_ex1 (.bipush 8) 2 8), none], [some (fl_ea (.if_icmp .ne 7) 3 119), none, none, fl_el (fl_ex1 (.iconst 1) 1 1) [true, true, false, true, true], some (fl_ea (.goto 4) 3 120), none, none, some (fl_e0 (.iconst 0) 1)], [some (fl_ea (.istore 5) 2 5), none, some (fl_e0 (.aload_n 0) 1), some (fl_ea (.aload_n 1) 1 1), some (fl_ea (.iload_n 3) 1 3), fl_el (fl_ef (.invokevirtual 90) 3 58 3 1 70 577) [true, true, false, true, true, true], none, none]], [[some (fl_e0 (.aload_n 0) 1), some (fl_ef (.getfield 38) 3 6 4 3 0 161), none, none, some (fl_ea (.ifCond .ne 14) 3 146), none, none, some (fl_ea (.iload 5) 2 5)], [none, some (fl_ea (.ifCond .ne 9) 3 146), none, none, some (fl_e0 (.aload_n 0) 1), some (fl_ea (.aload_n 1) 1 1), some (fl_ea (.iload_n 3) 1 3), fl_el (fl_ef (.invokevirtual 90) 3 58 3 1 70 577) [true, true, false, true, true, true]], [none, none, fl_el (fl_e0 (.aload_n 0) 1) [true, true, false, true, true, true], some (fl_ef (.getfield 38) 3 6 4 3 0 161), none, none, some (fl_ea (.ifCond .ne 23) 3 173), none], [none, some (fl_ea (.iload 5) 2 5), none, some (fl_ea (.ifCond .ne 18) 3 173), none, none, some (fl_e0 (.aload_n 0) 1), some (fl_ea (.aload_n 1) 1 1)], [fl_el (fl_ef (.invokevirtual 94) 3 56 2 1 54 581) [true, true, false, true, true], none, none, some (fl_ex1 (.iconst (-1)) 1 (-1)), some (fl_ea (.if_icmp .eq 9) 3 173), none, none, some (fl_e0 (.aload_n 0) 1)], [some (fl_ea (.aload_n 1) 1 1), some (fl_ea (.iload_n 3) 1 3), fl_el (fl_ef (.invokevirtual 90) 3 58 3 1 70 577) [true, true, false, true, true], none, none, fl_el (fl_e0 (.aload_n 0) 1) [true, true, false, true, true], some (fl_ef (.getfield 38) 3 6 4 3 0 161), none], [none, some (fl_ea (.ifCond .ne 28) 3 205), none, none, some (fl_e0 (.aload_n 0) 1), some (fl_ef (.getfield 12) 3 6 0 2 0 154), none, none], [some (fl_ea (.iload_n 3) 1 3), some (fl_ea (.iload 4) 2 4), none, some (fl_ea (.iload_n 3) 1 3), some (fl_ex1 (.bipush 8) 2 8), none, some (fl_ea (.if_icmp .ne 11) 3 201), none]], [[none, some (fl_e0 (.aload_n 0) 1), some (fl_ea (.aload_n 1) 1 1), fl_el (fl_ef (.invokevirtual 97) 3 59 2 1 54 589) [], none, none, some (fl_ea (.goto 4) 3 202), none], [none, some (fl_ex1 (.iconst (-1)) 1 (-1)), fl_el (fl_ef (.invokevirtual 100) 3 21 4 1 68 593) [], none, none, fl_el (fl_e0 (.return_) 1) []]]]
/-- FaultLists$Net.isOutput(I)Z -/
def fl_c61 : List (List (List (Option fl_E))) := [[[some (fl_e0 (.iconst 0) 1), some (fl_ea (.istore_n 2) 1 2), fl_el (fl_ea (.iload_n 2) 1 2) [true, true, true], some (fl_e0 (.aload_n 0) 1), some (fl_ef (.getfield 48) 3 4 4 0 0 94), none, none, some (fl_ea (.if_icmp .ge 23) 3 30)], [none, none, some (fl_e0 (.aload_n 0) 1), some (fl_ef (.getfield 32) 3 4 10 2 0 123), none, none, some (fl_ea (.iload_n 2) 1 2), fl_el (fl_ef (.invokevirtual 73) 3 24 2 1 33 606) [true, true, true]], [none, none, some (fl_ea (.iload_n 1) 1 1), some (fl_ea (.if_icmp .ne 5) 3 24), none, none, some (fl_ex1 (.iconst 1) 1 1), some (fl_ef (.ireturn) 1 0 0 3 0 0)], [some (fl_ew (.iinc 2 1) 3 2 0 0 0 0 1 0 []), none, none, some (fl_ea (.goto (-25)) 3 2), none, none, some (fl_e0 (.iconst 0) 1), some (fl_ef (.ireturn) 1 0 0 3 0 0)]]]
/-- FaultLists$Reader.readOutput(LFaultLists$Pile;)V -/
def fl_c62 : List (List (List (Option fl_E))) := [[[some (fl_e0 (.aload_n 0) 1), some (fl_ea (.aload_n 1) 1 1), fl_el (fl_ef (.invokevirtual 94) 3 56 2 1 54 581) [true], none, none, some (fl_ea (.istore_n 2) 1 2), some (fl_ea (.iload_n 2) 1 2), some (fl_ex1 (.iconst (-1)) 1 (-1))], [some (fl_ea (.if_icmp .ne 16) 3 24), none, none, some (fl_e0 (.aload_n 0) 1), some (fl_e0 (.iconst 0) 1), some (fl_ex1 (.iconst 3) 1 3), some (fl_e0 (.aload_n 0) 1), some (fl_ef (.getfield 34) 3 6 3 0 0 160)], [none, none, fl_el (fl_ef (.invokevirtual 67) 3 44 4 1 70 476) [], none, none, some (fl_ea (.goto 77) 3 98), none, none], [some (fl_ea (.iload_n 2) 1 2), some (fl_e0 (.aload_n 0) 1), some (fl_ef (.getfield 12) 3 6 0 2 0 154), none, none, some (fl_ef (.getfield 81) 3 4 1 0 0 83), none, none], [some (fl_ea (.if_icmp .ge 14) 3 46), none, none, some (fl_e0 (.aload_n 0) 1), some (fl_ef (.getfield 12) 3 6 0 2 0 154), none, none, some (fl_ea (.iload_n 2) 1 2)], [fl_el (fl_ef (.invokevirtual 110) 3 61 2 1 52 602) [true, false, true], none, none, some (fl_ea (.ifCond .eq 13) 3 56), none, none, fl_el (fl_e0 (.aload_n 0) 1) [true, false, true], some (fl_e0 (.iconst 0) 1)], [some (fl_ex1 (.iconst 5) 1 5), some (fl_ea (.iload_n 2) 1 2), fl_el (fl_ef (.invokevirtual 67) 3 44 4 1 70 476) [], none, none, some (fl_ea (.goto 45) 3 98), none, none], [some (fl_e0 (.aload_n 0) 1), some (fl_ef (.getfield 12) 3 6 0 2 0 154), none, none, some (fl_ef (.getfield 114) 3 4 4 0 0 98), none, none, some (fl_ex1 (.iconst 4) 1 4)]], [[some (fl_ea (.if_icmp .lt 16) 3 80), none, none, some (fl_e0 (.aload_n 0) 1), some (fl_e0 (.iconst 0) 1), some (fl_ex1 (.iconst 4) 1 4), some (fl_e0 (.aload_n 0) 1), some (fl_ef (.getfield 34) 3 6 3 0 0 160)], [none, none, fl_el (fl_ef (.invokevirtual 67) 3 44 4 1 70 476) [], none, none, some (fl_ea (.goto 21) 3 98), none, none], [some (fl_e0 (.aload_n 0) 1), some (fl_ef (.getfield 12) 3 6 0 2 0 154), none, none, some (fl_ea (.iload_n 2) 1 2), fl_el (fl_ef (.invokevirtual 117) 3 23 2 1 36 607) [true], none, none], [some (fl_e0 (.aload_n 0) 1), some (fl_e0 (.dup) 1), some (fl_ef (.getfield 34) 3 6 3 0 0 160), none, none, some (fl_ex1 (.iconst 1) 1 1), some (fl_e0 (.iadd) 1), some (fl_ef (.putfield 34) 3 6 3 0 0 160)], [none, none, fl_el (fl_e0 (.return_) 1) []]]]
/-- FaultLists$Reader.readOutputs(LFaultLists$Pile;)V -/
def fl_c63 : List (List (List (Option fl_E))) := [[[some (fl_e0 (.aload_n 0) 1), some (fl_ea (.aload_n 1) 1 1), fl_el (fl_ef (.invokevirtual 46) 3 42 2 1 38 466) [true, true], none, none, some (fl_ex1 (.bipush 58) 2 58), none, some (fl_ea (.if_icmp .eq 14) 3 21)], [none, none, some (fl_e0 (.aload_n 0) 1), some (fl_e0 (.iconst 0) 1), some (fl_ex1 (.iconst 3) 1 3), some (fl_e0 (.aload_n 0) 1), some (fl_ef (.getfield 34) 3 6 3 0 0 160), none], [none, fl_el (fl_ef (.invokevirtual 67) 3 44 4 1 70 476) [], none, none, some (fl_e0 (.return_) 1), some (fl_e0 (.aload_n 0) 1), some (fl_e0 (.dup) 1), some (fl_ef (.getfield 34) 3 6 3 0 0 160)], [none, none, some (fl_ex1 (.iconst 1) 1 1), some (fl_e0 (.iadd) 1), some (fl_ef (.putfield 34) 3 6 3 0 0 160), none, none, fl_el (fl_e0 (.aload_n 0) 1) [true, true]], [some (fl_ea (.aload_n 1) 1 1), fl_el (fl_ef (.invokevirtual 107) 3 62 2 1 54 598) [true, true], none, none, some (fl_e0 (.iconst 0) 1), some (fl_ea (.istore_n 2) 1 2), fl_el (fl_ea (.iload_n 2) 1 2) [true, true, true], some (fl_ex1 (.bipush 80) 2 80)], [none, some (fl_ea (.if_icmp .ge 32) 3 73), none, none, some (fl_e0 (.aload_n 0) 1), some (fl_ef (.getfield 38) 3 6 4 3 0 161), none, none], [some (fl_ea (.ifCond .ne 25) 3 73), none, none, some (fl_e0 (.aload_n 0) 1), some (fl_ef (.getfield 34) 3 6 3 0 0 160), none, none, some (fl_ea (.aload_n 1) 1 1)], [fl_el (fl_ef (.invokevirtual 60) 3 31 1 1 21 470) [true, true, true], none, none, some (fl_ea (.if_icmp .ge 14) 3 73), none, none, some (fl_e0 (.aload_n 0) 1), some (fl_ea (.aload_n 1) 1 1)]], [[fl_el (fl_ef (.invokevirtual 107) 3 62 2 1 54 598) [true, true, true], none, none, some (fl_ew (.iinc 2 1) 3 2 0 0 0 0 1 0 []), none, none, some (fl_ea (.goto (-32)) 3 38), none], [none, fl_el (fl_e0 (.return_) 1) []]]]
/-- FaultLists$Net.isLine(I)Z -/
def fl_c64 : List (List (List (Option fl_E))) := [[[some (fl_ea (.iload_n 1) 1 1), some (fl_ea (.ifCond .lt 15) 3 16), none, none, some (fl_ea (.iload_n 1) 1 1), some (fl_e0 (.aload_n 0) 1), some (fl_ef (.getfield 39) 3 4 1 0 0 79), none], [none, some (fl_ea (.if_icmp .ge 7) 3 16), none, none, some (fl_ex1 (.iconst 1) 1 1), some (fl_ea (.goto 4) 3 17), none, none], [fl_el (fl_e0 (.iconst 0) 1) [], some (fl_ef (.ireturn) 1 0 0 3 0 0)]]]
/-- FaultLists$Net.isRegister(I)Z -/
def fl_c65 : List (List (List (Option fl_E))) := [[[some (fl_e0 (.aload_n 0) 1), some (fl_ea (.iload_n 1) 1 1), fl_el (fl_ef (.invokevirtual 69) 3 64 2 1 36 617) [true, true], none, none, some (fl_ea (.ifCond .eq 20) 3 25), none, none], [some (fl_e0 (.aload_n 0) 1), some (fl_ef (.getfield 14) 3 4 5 2 0 101), none, none, some (fl_ea (.iload_n 1) 1 1), fl_el (fl_ef (.invokevirtual 73) 3 24 2 1 33 606) [], none, none], [some (fl_ex1 (.bipush 8) 2 8), none, some (fl_ea (.if_icmp .ne 7) 3 25), none, none, some (fl_ex1 (.iconst 1) 1 1), some (fl_ea (.goto 4) 3 26), none], [none, fl_el (fl_e0 (.iconst 0) 1) [], some (fl_ef (.ireturn) 1 0 0 3 0 0)]]]
/-- FaultLists$Net.faults()I -/
def fl_c66 : List (List (List (Option fl_E))) := [[[some (fl_ex1 (.iconst 2) 1 2), some (fl_e0 (.aload_n 0) 1), some (fl_ef (.getfield 39) 3 4 1 0 0 79), none, none, some (fl_e0 (.aload_n 0) 1), some (fl_ef (.getfield 42) 3 4 2 0 0 86), none], [none, some (fl_e0 (.iadd) 1), some (fl_e0 (.imul) 1), some (fl_e0 (.ireturn) 1)]]]
/-- FaultLists$Reader.askRegisters()I -/
def fl_c67 : List (List (List (Option fl_E))) := [[[some (fl_e0 (.iconst 0) 1), some (fl_ea (.istore_n 1) 1 1), fl_el (fl_ea (.iload_n 1) 1 1) [true, true], some (fl_e0 (.aload_n 0) 1), some (fl_ef (.getfield 12) 3 6 0 2 0 154), none, none, some (fl_ef (.getfield 81) 3 4 1 0 0 83)], [none, none, some (fl_ea (.if_icmp .ge 81) 3 91), none, none, some (fl_e0 (.aload_n 0) 1), some (fl_ef (.getfield 12) 3 6 0 2 0 154), none], [none, some (fl_ef (.getfield 120) 3 4 9 2 0 122), none, none, some (fl_e0 (.aload_n 0) 1), some (fl_ef (.getfield 12) 3 6 0 2 0 154), none, none], [some (fl_ef (.getfield 124) 3 4 7 2 0 113), none, none, some (fl_ea (.iload_n 1) 1 1), fl_el (fl_ef (.invokevirtual 127) 3 24 2 1 33 612) [true, true], none, none, fl_el (fl_ef (.invokevirtual 127) 3 24 2 1 33 612) [true, true]], [none, none, some (fl_ea (.istore_n 2) 1 2), some (fl_e0 (.aload_n 0) 1), some (fl_ef (.getfield 12) 3 6 0 2 0 154), none, none, some (fl_ea (.iload_n 1) 1 1)], [fl_el (fl_ef (.invokevirtual 130) 3 65 2 1 36 613) [true, true, true], none, none, some (fl_ea (.ifCond .eq 42) 3 85), none, none, some (fl_ea (.iload_n 2) 1 2), some (fl_e0 (.aload_n 0) 1)], [some (fl_ef (.getfield 12) 3 6 0 2 0 154), none, none, some (fl_ef (.getfield 81) 3 4 1 0 0 83), none, none, some (fl_ea (.if_icmp .lt 31) 3 85), none], [none, some (fl_e0 (.aload_n 0) 1), some (fl_ex1 (.iconst 1) 1 1), some (fl_e0 (.aload_n 0) 1), some (fl_ef (.getfield 12) 3 6 0 2 0 154), none, none, some (fl_ef (.getfield 81) 3 4 1 0 0 83)]], [[none, none, fl_el (fl_ef (.invokevirtual 133) 3 43 3 1 54 480) [true, true, true], none, none, some (fl_e0 (.aload_n 0) 1), some (fl_ex1 (.iconst 2) 1 2), some (fl_ea (.iload_n 1) 1 1)], [fl_el (fl_ef (.invokevirtual 133) 3 43 3 1 54 480) [true, false, true], none, none, some (fl_e0 (.aload_n 0) 1), some (fl_ex1 (.iconst 5) 1 5), some (fl_ea (.iload_n 2) 1 2), fl_el (fl_ef (.invokevirtual 133) 3 43 3 1 54 480) [], none], [none, some (fl_ex1 (.sipush (-200)) 3 (-200)), none, none, some (fl_e0 (.ireturn) 1), fl_el (fl_ew (.iinc 1 1) 3 1 0 0 0 0 1 0 []) [true, true], none, none], [some (fl_ea (.goto (-86)) 3 2), none, none, some (fl_e0 (.aload_n 0) 1), some (fl_ef (.getfield 12) 3 6 0 2 0 154), none, none, fl_el (fl_ef (.invokevirtual 137) 3 66 1 1 20 621) []], [none, none, some (fl_e0 (.ireturn) 1)]]]
/-- FaultLists$Reader.read(LFaultLists$Pile;)I -/
def fl_c68 : List (List (List (Option fl_E))) := [[[some (fl_e0 (.aload_n 0) 1), some (fl_ef (.getfield 12) 3 6 0 2 0 154), none, none, fl_el (fl_ef (.invokevirtual 30) 3 39 1 1 20 454) [true, true], none, none, some (fl_e0 (.aload_n 0) 1)], [some (fl_ef (.getfield 23) 3 6 1 2 0 156), none, none, fl_el (fl_ef (.invokevirtual 33) 3 40 1 1 21 458) [true, true], none, none, some (fl_e0 (.aload_n 0) 1), some (fl_ef (.getfield 27) 3 6 2 2 0 158)], [none, none, fl_el (fl_ef (.invokevirtual 33) 3 40 1 1 21 458) [true, true], none, none, some (fl_e0 (.aload_n 0) 1), some (fl_e0 (.iconst 0) 1), some (fl_ef (.putfield 34) 3 6 3 0 0 160)], [none, none, fl_el (fl_e0 (.aload_n 0) 1) [true, true], some (fl_e0 (.iconst 0) 1), some (fl_ef (.putfield 38) 3 6 4 3 0 161), none, none, fl_el (fl_e0 (.aload_n 0) 1) [true, true]], [some (fl_ea (.aload_n 1) 1 1), fl_el (fl_ef (.invokevirtual 42) 3 45 2 1 54 462) [true, true], none, none, some (fl_e0 (.iconst 0) 1), some (fl_ea (.istore_n 2) 1 2), fl_el (fl_ea (.iload_n 2) 1 2) [true, true, true], some (fl_ex1 (.bipush 80) 2 80)], [none, some (fl_ea (.if_icmp .ge 41) 3 82), none, none, some (fl_e0 (.aload_n 0) 1), some (fl_ef (.getfield 38) 3 6 4 3 0 161), none, none], [some (fl_ea (.ifCond .ne 34) 3 82), none, none, some (fl_e0 (.aload_n 0) 1), some (fl_ea (.aload_n 1) 1 1), fl_el (fl_ef (.invokevirtual 46) 3 42 2 1 38 466) [true, true, true], none, none], [some (fl_ex1 (.bipush 59) 2 59), none, some (fl_ea (.if_icmp .ne 24) 3 82), none, none, some (fl_e0 (.aload_n 0) 1), some (fl_e0 (.dup) 1), some (fl_ef (.getfield 34) 3 6 3 0 0 160)]], [[none, none, some (fl_ex1 (.iconst 1) 1 1), some (fl_e0 (.iadd) 1), some (fl_ef (.putfield 34) 3 6 3 0 0 160), none, none, fl_el (fl_e0 (.aload_n 0) 1) [true, true, true]], [some (fl_ea (.aload_n 1) 1 1), fl_el (fl_ef (.invokevirtual 50) 3 60 2 1 102 486) [true, true, true], none, none, some (fl_ew (.iinc 2 1) 3 2 0 0 0 0 1 0 []), none, none, some (fl_ea (.goto (-41)) 3 38)], [none, none, fl_el (fl_e0 (.aload_n 0) 1) [true, true], some (fl_ef (.getfield 38) 3 6 4 3 0 161), none, none, some (fl_ea (.ifCond .ne 8) 3 94), none], [none, some (fl_e0 (.aload_n 0) 1), some (fl_ea (.aload_n 1) 1 1), fl_el (fl_ef (.invokevirtual 53) 3 63 2 1 54 594) [true], none, none, fl_el (fl_e0 (.aload_n 0) 1) [true], some (fl_ef (.getfield 38) 3 6 4 3 0 161)], [none, none, some (fl_ea (.ifCond .eq 12) 3 110), none, none, some (fl_ex1 (.iconst (-1)) 1 (-1)), some (fl_e0 (.aload_n 0) 1), some (fl_ef (.getfield 34) 3 6 3 0 0 160)], [none, none, some (fl_e0 (.isub) 1), some (fl_ea (.goto 7) 3 114), none, none, some (fl_e0 (.aload_n 0) 1), fl_el (fl_ef (.invokevirtual 56) 3 67 1 1 54 608) []], [none, none, some (fl_e0 (.ireturn) 1)]]]
/-- FaultLists$Cells.copy(LFaultLists$Cells;)V -/
def fl_c69 : List (List (List (Option fl_E))) := [[[some (fl_e0 (.iconst 0) 1), some (fl_ea (.istore_n 2) 1 2), fl_el (fl_ea (.iload_n 2) 1 2) [true, true, true], some (fl_e0 (.aload_n 0) 1), some (fl_ef (.getfield 7) 3 1 0 2 0 45), none, none, some (fl_ea (.arraylength) 1 3)], [some (fl_ea (.if_icmp .ge 30) 3 38), none, none, some (fl_ea (.iload_n 2) 1 2), some (fl_ea (.aload_n 1) 1 1), some (fl_ef (.getfield 7) 3 1 0 2 0 45), none, none], [some (fl_ea (.arraylength) 1 3), some (fl_ea (.if_icmp .ge 21) 3 38), none, none, some (fl_e0 (.aload_n 0) 1), some (fl_ef (.getfield 7) 3 1 0 2 0 45), none, none], [some (fl_ea (.iload_n 2) 1 2), some (fl_ea (.aload_n 1) 1 1), some (fl_ef (.getfield 7) 3 1 0 2 0 45), none, none, some (fl_ea (.iload_n 2) 1 2), some (fl_e0 (.laload) 1), some (fl_e0 (.lastore) 1)], [fl_el (fl_ew (.iinc 2 1) 3 2 0 0 0 0 1 0 []) [true, true, true], none, none, some (fl_ea (.goto (-33)) 3 2), none, none, fl_el (fl_e0 (.return_) 1) []]]]
/-- FaultLists$Net.copy(LFaultLists$Net;)V -/
def fl_c70 : List (List (List (Option fl_E))) := [[[some (fl_e0 (.aload_n 0) 1), some (fl_ea (.aload_n 1) 1 1), some (fl_ef (.getfield 35) 3 4 0 0 0 74), none, none, some (fl_ef (.putfield 35) 3 4 0 0 0 74), none, none], [fl_el (fl_e0 (.aload_n 0) 1) [true, true], some (fl_ea (.aload_n 1) 1 1), some (fl_ef (.getfield 39) 3 4 1 0 0 79), none, none, some (fl_ef (.putfield 39) 3 4 1 0 0 79), none, none], [fl_el (fl_e0 (.aload_n 0) 1) [true, true], some (fl_ea (.aload_n 1) 1 1), some (fl_ef (.getfield 42) 3 4 2 0 0 86), none, none, some (fl_ef (.putfield 42) 3 4 2 0 0 86), none, none], [fl_el (fl_e0 (.aload_n 0) 1) [true, true], some (fl_ea (.aload_n 1) 1 1), some (fl_ef (.getfield 45) 3 4 3 0 0 90), none, none, some (fl_ef (.putfield 45) 3 4 3 0 0 90), none, none], [fl_el (fl_e0 (.aload_n 0) 1) [true, true], some (fl_ea (.aload_n 1) 1 1), some (fl_ef (.getfield 48) 3 4 4 0 0 94), none, none, some (fl_ef (.putfield 48) 3 4 4 0 0 94), none, none], [fl_el (fl_e0 (.aload_n 0) 1) [true, true], some (fl_ef (.getfield 14) 3 4 5 2 0 101), none, none, some (fl_ea (.aload_n 1) 1 1), some (fl_ef (.getfield 14) 3 4 5 2 0 101), none, none], [fl_el (fl_ef (.invokevirtual 51) 3 69 2 1 49 630) [true, true], none, none, some (fl_e0 (.aload_n 0) 1), some (fl_ef (.getfield 20) 3 4 6 2 0 105), none, none, some (fl_ea (.aload_n 1) 1 1)], [some (fl_ef (.getfield 20) 3 4 6 2 0 105), none, none, fl_el (fl_ef (.invokevirtual 51) 3 69 2 1 49 630) [true, true], none, none, some (fl_e0 (.aload_n 0) 1), some (fl_ef (.getfield 23) 3 4 7 2 0 109)]], [[none, none, some (fl_ea (.aload_n 1) 1 1), some (fl_ef (.getfield 23) 3 4 7 2 0 109), none, none, fl_el (fl_ef (.invokevirtual 51) 3 69 2 1 49 630) [true, true], none], [none, some (fl_e0 (.aload_n 0) 1), some (fl_ef (.getfield 26) 3 4 8 2 0 114), none, none, some (fl_ea (.aload_n 1) 1 1), some (fl_ef (.getfield 26) 3 4 8 2 0 114), none], [none, fl_el (fl_ef (.invokevirtual 51) 3 69 2 1 49 630) [true, true], none, none, some (fl_e0 (.aload_n 0) 1), some (fl_ef (.getfield 29) 3 4 9 2 0 118), none, none], [some (fl_ea (.aload_n 1) 1 1), some (fl_ef (.getfield 29) 3 4 9 2 0 118), none, none, fl_el (fl_ef (.invokevirtual 51) 3 69 2 1 49 630) [true, true], none, none, some (fl_e0 (.aload_n 0) 1)], [some (fl_ef (.getfield 32) 3 4 10 2 0 123), none, none, some (fl_ea (.aload_n 1) 1 1), some (fl_ef (.getfield 32) 3 4 10 2 0 123), none, none, fl_el (fl_ef (.invokevirtual 51) 3 69 2 1 49 630) []], [none, none, some (fl_e0 (.return_) 1)]]]
/-- FaultLists.net()I -/
def fl_c71 : List (List (List (Option fl_E))) := [[[some (fl_e0 (.aload_n 0) 1), some (fl_ef (.getfield 24) 3 10 2 2 0 387), none, none, some (fl_e0 (.aload_n 0) 1), some (fl_ef (.getfield 14) 3 10 0 2 0 385), none, none], [fl_el (fl_ef (.invokevirtual 99) 3 68 2 1 54 450) [true], none, none, some (fl_ea (.istore_n 1) 1 1), some (fl_e0 (.aload_n 0) 1), some (fl_ef (.getfield 14) 3 10 0 2 0 385), none, none], [fl_el (fl_ef (.invokevirtual 103) 3 40 1 1 21 625) [true, true], none, none, some (fl_ea (.iload_n 1) 1 1), some (fl_ea (.ifCond .lt 35) 3 55), none, none, some (fl_e0 (.aload_n 0) 1)], [some (fl_ef (.getfield 31) 3 10 3 2 0 388), none, none, some (fl_ef (.getfield 72) 3 7 0 2 0 230), none, none, some (fl_e0 (.aload_n 0) 1), some (fl_ef (.getfield 24) 3 10 2 2 0 387)], [none, none, some (fl_ef (.getfield 106) 3 6 0 2 0 155), none, none, fl_el (fl_ef (.invokevirtual 107) 3 70 2 1 36 626) [true, true], none, none], [some (fl_e0 (.aload_n 0) 1), some (fl_ef (.getfield 31) 3 10 3 2 0 388), none, none, some (fl_e0 (.iconst 0) 1), some (fl_ef (.putfield 111) 3 7 4 3 0 238), none, none], [fl_el (fl_e0 (.aload_n 0) 1) [true, true], some (fl_ef (.getfield 31) 3 10 3 2 0 388), none, none, fl_el (fl_ef (.invokevirtual 84) 3 28 1 1 23 363) [false, true], none, none, fl_el (fl_ea (.iload_n 1) 1 1) [false, true]], [some (fl_e0 (.ireturn) 1)]]]
/-- FaultListsModel.reads()V -/
def fl_c72 : List (List (List (Option fl_E))) := [[[some (fl_e0 (.aload_n 0) 1), some (fl_e0 (.aload_n 0) 1), some (fl_ef (.getfield 14) 3 11 4 0 0 1125), none, none, some (fl_ef (.putfield 25) 3 11 6 0 0 1127), none, none], [fl_el (fl_e0 (.aload_n 0) 1) [true], some (fl_e0 (.iconst 0) 1), some (fl_ef (.putfield 14) 3 11 4 0 0 1125), none, none, fl_el (fl_e0 (.aload_n 0) 1) [true], some (fl_e0 (.iconst 0) 1), some (fl_ef (.putfield 28) 3 11 5 0 0 1126)], [none, none, some (fl_e0 (.return_) 1)]]]
/-- jdk/internal/util/Preconditions.checkIndex(IILjava/util/function/BiFunction;)I -/
def fl_c73 : List (List (List (Option fl_E))) := [[[some (fl_e0 (.iload_n 0) 1), some (fl_ea (.ifCond .lt 8) 3 9), none, none, some (fl_e0 (.iload_n 0) 1), some (fl_ea (.iload_n 1) 1 1), some (fl_ea (.if_icmp .lt 10) 3 16), none], [none, fl_el (fl_ea (.aload_n 2) 1 2) [true, true, true], some (fl_e0 (.iload_n 0) 1), some (fl_ea (.iload_n 1) 1 1), fl_el (fl_ea (.invokestatic 95) 3 9999) [], none, none, none], [some (fl_e0 (.iload_n 0) 1), some (fl_e0 (.ireturn) 1)]]]
/-- java/lang/String.checkIndex(II)V -/
def fl_c74 : List (List (List (Option fl_E))) := [[[some (fl_e0 (.iload_n 0) 1), some (fl_ea (.iload_n 1) 1 1), some (fl_ef (.getstatic 1053) 3 0 0 1 0 546), none, none, fl_el (fl_ef (.invokestatic 1059) 3 73 3 0 48 1261) [], none, none], [some (fl_e0 (.pop) 1), some (fl_e0 (.return_) 1)]]]
/-- java/lang/StringLatin1.charAt([BI)C -/
def fl_c75 : List (List (List (Option fl_E))) := [[[some (fl_ea (.iload_n 1) 1 1), some (fl_e0 (.aload_n 0) 1), some (fl_ea (.arraylength) 1 5), fl_el (fl_ef (.invokestatic 9) 3 74 2 0 32 1258) [true, true], none, none, some (fl_e0 (.aload_n 0) 1), some (fl_ea (.iload_n 1) 1 1)], [some (fl_ea (.baload) 1 5), some (fl_ex1 (.sipush 255) 3 255), none, none, some (fl_e0 (.iand) 1), some (fl_e0 (.i2c) 1), some (fl_ef (.ireturn) 1 0 0 4 0 0)]]]
/-- java/lang/String.charAt(I)C -/
def fl_c76 : List (List (List (Option fl_E))) := [[[some (fl_e0 (.aload_n 0) 1), fl_el (fl_ef (.invokevirtual 492) 3 46 1 3 16 499) [true, true], none, none, some (fl_ea (.ifCond .eq 12) 3 16), none, none, some (fl_e0 (.aload_n 0) 1)], [some (fl_ef (.getfield 9) 3 0 0 7 0 1628), none, none, some (fl_ea (.iload_n 1) 1 1), fl_el (fl_ef (.invokestatic 495) 3 75 2 0 32 1255) [], none, none, some (fl_ef (.ireturn) 1 0 0 4 0 0)], [some (fl_e0 (.aload_n 0) 1), some (fl_ef (.getfield 9) 3 0 0 7 0 1628), none, none, some (fl_ea (.iload_n 1) 1 1), fl_el (fl_ef (.invokestatic 498) 3 9999 2 0 0 1264) [], none, none], [some (fl_ef (.ireturn) 1 0 0 4 0 0)]]]
/-- FaultListsModel.placeIn(Ljava/lang/String;I)I -/
def fl_c77 : List (List (List (Option fl_E))) := [[[some (fl_e0 (.iconst 0) 1), some (fl_ea (.istore_n 2) 1 2), fl_el (fl_ea (.iload_n 2) 1 2) [true, true, true], some (fl_e0 (.aload_n 0) 1), fl_el (fl_ef (.invokevirtual 31) 3 48 1 3 16 1250) [true, true, true], none, none, some (fl_ea (.if_icmp .ge 20) 3 27)], [none, none, some (fl_e0 (.aload_n 0) 1), some (fl_ea (.iload_n 2) 1 2), fl_el (fl_ef (.invokevirtual 37) 3 76 2 3 32 1251) [true, true, true], none, none, some (fl_ea (.iload_n 1) 1 1)], [some (fl_ea (.if_icmp .ne 5) 3 21), none, none, some (fl_ea (.iload_n 2) 1 2), some (fl_e0 (.ireturn) 1), some (fl_ew (.iinc 2 1) 3 2 0 0 0 0 1 0 []), none, none], [some (fl_ea (.goto (-22)) 3 2), none, none, some (fl_ex1 (.iconst (-1)) 1 (-1)), some (fl_e0 (.ireturn) 1)]]]
/-- FaultListsModel.seen(Ljava/lang/String;)I -/
def fl_c78 : List (List (List (Option fl_E))) := [[[some (fl_e0 (.aload_n 0) 1), some (fl_ef (.getfield 28) 3 11 5 0 0 1126), none, none, some (fl_e0 (.aload_n 0) 1), some (fl_ef (.getfield 25) 3 11 6 0 0 1127), none, none], [some (fl_ea (.if_icmp .ge 19) 3 27), none, none, some (fl_ea (.aload_n 1) 1 1), some (fl_e0 (.aload_n 0) 1), some (fl_ef (.getfield 17) 3 11 3 2 0 1124), none, none], [some (fl_e0 (.aload_n 0) 1), some (fl_ef (.getfield 28) 3 11 5 0 0 1126), none, none, some (fl_ea (.iaload) 1 2), fl_el (fl_ef (.invokestatic 41) 3 77 2 0 48 1247) [], none, none], [some (fl_ea (.goto 4) 3 28), none, none, some (fl_ex1 (.iconst (-1)) 1 (-1)), some (fl_e0 (.ireturn) 1)]]]
/-- FaultListsModel.flag(Z)I -/
def fl_c79 : List (List (List (Option fl_E))) := [[[some (fl_e0 (.iload_n 0) 1), some (fl_ea (.ifCond .eq 7) 3 8), none, none, some (fl_ex1 (.iconst 1) 1 1), some (fl_ea (.goto 4) 3 9), none, none], [some (fl_e0 (.iconst 0) 1), some (fl_e0 (.ireturn) 1)]]]
/-- FaultListsModel.takesOf(Ljava/lang/String;)I -/
def fl_c80 : List (List (List (Option fl_E))) := [[[some (fl_e0 (.aload_n 0) 1), some (fl_ea (.aload_n 1) 1 1), fl_el (fl_ef (.invokevirtual 45) 3 78 2 1 43 1243) [true], none, none, some (fl_ea (.istore_n 2) 1 2), some (fl_e0 (.aload_n 0) 1), some (fl_e0 (.dup) 1)], [some (fl_ef (.getfield 28) 3 11 5 0 0 1126), none, none, some (fl_ea (.iload_n 2) 1 2), some (fl_ea (.ifCond .lt 7) 3 19), none, none, some (fl_ex1 (.iconst 1) 1 1)], [some (fl_ea (.goto 4) 3 20), none, none, some (fl_e0 (.iconst 0) 1), fl_el (fl_ef (.invokestatic 49) 3 79 1 0 16 1271) [false, false, true], none, none, some (fl_e0 (.iadd) 1)], [some (fl_ef (.putfield 28) 3 11 5 0 0 1126), none, none, fl_el (fl_ea (.iload_n 2) 1 2) [false, false, true], some (fl_e0 (.ireturn) 1)]]]
/-- FaultListsModel.causes(II)V -/
def fl_c81 : List (List (List (Option fl_E))) := [[[some (fl_e0 (.aload_n 0) 1), some (fl_ef (.getfield 65) 3 11 9 2 0 1130), none, none, some (fl_e0 (.aload_n 0) 1), some (fl_ef (.getfield 136) 3 11 11 0 0 1132), none, none], [some (fl_ea (.iload_n 1) 1 1), some (fl_e0 (.iastore) 1), fl_el (fl_e0 (.aload_n 0) 1) [true, false, true], some (fl_ef (.getfield 68) 3 11 10 2 0 1131), none, none, some (fl_e0 (.aload_n 0) 1), some (fl_ef (.getfield 136) 3 11 11 0 0 1132)], [none, none, some (fl_ea (.iload_n 2) 1 2), some (fl_e0 (.iastore) 1), fl_el (fl_e0 (.aload_n 0) 1) [true], some (fl_e0 (.dup) 1), some (fl_ef (.getfield 136) 3 11 11 0 0 1132), none], [none, some (fl_ex1 (.iconst 1) 1 1), some (fl_e0 (.iadd) 1), some (fl_ef (.putfield 136) 3 11 11 0 0 1132), none, none, some (fl_e0 (.return_) 1)]]]
/-- FaultListsModel.fails(IIII)I -/
def fl_c82 : List (List (List (Option fl_E))) := [[[some (fl_e0 (.aload_n 0) 1), some (fl_e0 (.iconst 0) 1), some (fl_ef (.putfield 136) 3 11 11 0 0 1132), none, none, fl_el (fl_e0 (.aload_n 0) 1) [true, true, true, true, true], some (fl_ex1 (.iconst 1) 1 1), some (fl_ea (.iload_n 1) 1 1)], [fl_el (fl_ef (.invokevirtual 139) 3 81 3 1 59 1278) [true, false, true, true, true], none, none, some (fl_ea (.iload_n 2) 1 2), some (fl_ea (.ifCond .lt 9) 3 21), none, none, some (fl_e0 (.aload_n 0) 1)], [some (fl_ex1 (.iconst 2) 1 2), some (fl_ea (.iload_n 2) 1 2), fl_el (fl_ef (.invokevirtual 139) 3 81 3 1 59 1278) [true, false, false, true, true], none, none, fl_el (fl_ea (.iload_n 3) 1 3) [true, false, false, true, true], some (fl_ex1 (.iconst 5) 1 5), some (fl_ea (.if_icmp .ne 10) 3 33)], [none, none, some (fl_e0 (.aload_n 0) 1), some (fl_ex1 (.iconst 5) 1 5), some (fl_ea (.iload 4) 2 4), none, fl_el (fl_ef (.invokevirtual 139) 3 81 3 1 59 1278) [true, false, false, true], none], [none, fl_el (fl_e0 (.aload_n 0) 1) [true, false, false, true], some (fl_ea (.iload_n 3) 1 3), some (fl_ex1 (.iconst 4) 1 4), some (fl_ea (.if_icmp .ne 7) 3 43), none, none, some (fl_ex1 (.iconst 4) 1 4)], [some (fl_ea (.goto 4) 3 44), none, none, some (fl_ex1 (.iconst 3) 1 3), some (fl_e0 (.aload_n 0) 1), some (fl_ef (.getfield 28) 3 11 5 0 0 1126), none, none], [fl_el (fl_ef (.invokevirtual 139) 3 81 3 1 59 1278) [true], none, none, some (fl_ex1 (.iconst (-1)) 1 (-1)), some (fl_e0 (.aload_n 0) 1), some (fl_ef (.getfield 28) 3 11 5 0 0 1126), none, none], [some (fl_e0 (.isub) 1), some (fl_e0 (.ireturn) 1)]]]
/-- FaultListsModel.readsPin(II)I -/
def fl_c83 : List (List (List (Option fl_E))) := [[[some (fl_e0 (.aload_n 0) 1), some (fl_ef (.ldc 142) 2 1048579 0 1 0 1292), none, fl_el (fl_ef (.invokevirtual 45) 3 78 2 1 43 1243) [true, true, true], none, none, some (fl_ea (.istore_n 3) 1 3), some (fl_ea (.iload_n 3) 1 3)], [some (fl_ea (.ifCond .ge 12) 3 20), none, none, some (fl_e0 (.aload_n 0) 1), some (fl_ea (.iload_n 1) 1 1), some (fl_ea (.iload_n 1) 1 1), some (fl_ex1 (.iconst 3) 1 3), some (fl_e0 (.iconst 0) 1)], [fl_el (fl_ef (.invokevirtual 144) 3 82 5 1 91 1274) [], none, none, some (fl_e0 (.ireturn) 1), some (fl_ea (.iload_n 3) 1 3), some (fl_ea (.iload_n 2) 1 2), some (fl_ea (.if_icmp .lt 12) 3 34), none], [none, some (fl_e0 (.aload_n 0) 1), some (fl_ea (.iload_n 1) 1 1), some (fl_ea (.iload_n 1) 1 1), some (fl_ex1 (.iconst 5) 1 5), some (fl_ea (.iload_n 3) 1 3), fl_el (fl_ef (.invokevirtual 144) 3 82 5 1 91 1274) [], none], [none, some (fl_e0 (.ireturn) 1), some (fl_e0 (.aload_n 0) 1), some (fl_ef (.getfield 59) 3 11 7 2 0 1128), none, none, some (fl_ex1 (.sipush 506) 3 506), none], [none, some (fl_ea (.iaload) 1 2), some (fl_ex1 (.bipush 20) 2 20), none, some (fl_ea (.if_icmp .ne 12) 3 56), none, none, some (fl_e0 (.aload_n 0) 1)], [some (fl_ea (.iload_n 1) 1 1), some (fl_ea (.iload_n 1) 1 1), some (fl_ex1 (.iconst 4) 1 4), some (fl_e0 (.iconst 0) 1), fl_el (fl_ef (.invokevirtual 144) 3 82 5 1 91 1274) [], none, none, some (fl_e0 (.ireturn) 1)], [some (fl_e0 (.aload_n 0) 1), some (fl_e0 (.dup) 1), some (fl_ef (.getfield 28) 3 11 5 0 0 1126), none, none, some (fl_ex1 (.iconst 1) 1 1), some (fl_e0 (.iadd) 1), some (fl_ef (.putfield 28) 3 11 5 0 0 1126)]], [[none, none, fl_el (fl_e0 (.aload_n 0) 1) [true, true, false, true], some (fl_ef (.getfield 59) 3 11 7 2 0 1128), none, none, some (fl_ex1 (.sipush 556) 3 556), none], [none, some (fl_e0 (.aload_n 0) 1), some (fl_ef (.getfield 59) 3 11 7 2 0 1128), none, none, some (fl_ex1 (.sipush 506) 3 506), none, none], [some (fl_ea (.iaload) 1 2), some (fl_e0 (.iadd) 1), some (fl_ea (.iload_n 3) 1 3), some (fl_e0 (.iastore) 1), fl_el (fl_e0 (.aload_n 0) 1) [true, true], some (fl_ef (.getfield 59) 3 11 7 2 0 1128), none, none], [some (fl_ex1 (.sipush 506) 3 506), none, none, some (fl_e0 (.dup2) 1), some (fl_ea (.iaload) 1 2), some (fl_ex1 (.iconst 1) 1 1), some (fl_e0 (.iadd) 1), some (fl_e0 (.iastore) 1)], [fl_el (fl_e0 (.aload_n 0) 1) [true, true], some (fl_ef (.getfield 59) 3 11 7 2 0 1128), none, none, some (fl_ex1 (.sipush 532) 3 532), none, none, some (fl_ea (.iload_n 1) 1 1)], [some (fl_e0 (.iadd) 1), some (fl_e0 (.dup2) 1), some (fl_ea (.iaload) 1 2), some (fl_ex1 (.iconst 1) 1 1), some (fl_e0 (.iadd) 1), some (fl_e0 (.iastore) 1), fl_el (fl_e0 (.iconst 0) 1) [], some (fl_e0 (.ireturn) 1)]]]
/-- FaultListsModel.readsLine()I -/
def fl_c84 : List (List (List (Option fl_E))) := [[[some (fl_e0 (.aload_n 0) 1), some (fl_ef (.getfield 59) 3 11 7 2 0 1128), none, none, some (fl_ex1 (.sipush 504) 3 504), none, none, some (fl_ea (.iaload) 1 2)], [some (fl_ea (.istore_n 1) 1 1), some (fl_e0 (.aload_n 0) 1), some (fl_ef (.ldc 148) 2 1048576 0 1 0 1287), none, fl_el (fl_ef (.invokevirtual 45) 3 78 2 1 43 1243) [true, true], none, none, some (fl_ex1 (.iconst 1) 1 1)], [some (fl_e0 (.iadd) 1), some (fl_ea (.istore_n 2) 1 2), some (fl_ea (.iload_n 2) 1 2), some (fl_ea (.ifCond .ne 12) 3 31), none, none, some (fl_e0 (.aload_n 0) 1), some (fl_ea (.iload_n 1) 1 1)], [some (fl_ex1 (.iconst (-1)) 1 (-1)), some (fl_ex1 (.iconst 3) 1 3), some (fl_e0 (.iconst 0) 1), fl_el (fl_ef (.invokevirtual 144) 3 82 5 1 91 1274) [], none, none, some (fl_e0 (.ireturn) 1), some (fl_ea (.iload_n 1) 1 1)], [some (fl_ex1 (.bipush 12) 2 12), none, some (fl_ea (.if_icmp .eq 17) 3 51), none, none, some (fl_ea (.iload_n 2) 1 2), some (fl_ex1 (.bipush 8) 2 8), none], [some (fl_ea (.if_icmp .ne 20) 3 60), none, none, some (fl_e0 (.aload_n 0) 1), some (fl_ef (.getfield 150) 3 11 12 0 0 1133), none, none, some (fl_ex1 (.iconst 3) 1 3)], [some (fl_ea (.if_icmp .ne 12) 3 60), none, none, fl_el (fl_e0 (.aload_n 0) 1) [true, true], some (fl_ea (.iload_n 1) 1 1), some (fl_ea (.iload_n 1) 1 1), some (fl_ex1 (.iconst 4) 1 4), some (fl_e0 (.iconst 0) 1)], [fl_el (fl_ef (.invokevirtual 144) 3 82 5 1 91 1274) [], none, none, some (fl_e0 (.ireturn) 1), fl_el (fl_e0 (.aload_n 0) 1) [true, true, true], some (fl_e0 (.dup) 1), some (fl_ef (.getfield 28) 3 11 5 0 0 1126), none]], [[none, some (fl_ex1 (.iconst 1) 1 1), some (fl_e0 (.iadd) 1), some (fl_ef (.putfield 28) 3 11 5 0 0 1126), none, none, fl_el (fl_e0 (.aload_n 0) 1) [true, true, true], some (fl_ef (.getfield 59) 3 11 7 2 0 1128)], [none, none, some (fl_ex1 (.sipush 508) 3 508), none, none, some (fl_ea (.iload_n 1) 1 1), some (fl_e0 (.iadd) 1), some (fl_ea (.iload_n 2) 1 2)], [some (fl_e0 (.iastore) 1), fl_el (fl_e0 (.aload_n 0) 1) [true, true, true], some (fl_ef (.getfield 59) 3 11 7 2 0 1128), none, none, some (fl_ex1 (.sipush 520) 3 520), none, none], [some (fl_ea (.iload_n 1) 1 1), some (fl_e0 (.iadd) 1), some (fl_e0 (.aload_n 0) 1), some (fl_ef (.getfield 59) 3 11 7 2 0 1128), none, none, some (fl_ex1 (.sipush 506) 3 506), none], [none, some (fl_ea (.iaload) 1 2), some (fl_e0 (.iastore) 1), fl_el (fl_e0 (.aload_n 0) 1) [true, true, true], some (fl_ef (.getfield 59) 3 11 7 2 0 1128), none, none, some (fl_ex1 (.sipush 532) 3 532)], [none, none, some (fl_ea (.iload_n 1) 1 1), some (fl_e0 (.iadd) 1), some (fl_e0 (.iconst 0) 1), some (fl_e0 (.iastore) 1), fl_el (fl_e0 (.aload_n 0) 1) [true, true, true], some (fl_ef (.getfield 59) 3 11 7 2 0 1128)], [none, none, some (fl_ex1 (.sipush 544) 3 544), none, none, some (fl_ea (.iload_n 1) 1 1), some (fl_e0 (.iadd) 1), some (fl_ex1 (.iconst 2) 1 2)], [some (fl_e0 (.iastore) 1), fl_el (fl_ea (.iload_n 2) 1 2) [true, true, true], some (fl_ex1 (.bipush 8) 2 8), none, some (fl_ea (.if_icmp .ne 8) 3 132), none, none, some (fl_ex1 (.bipush 12) 2 12)]], [[none, some (fl_ea (.goto 4) 3 133), none, none, some (fl_ea (.iload_n 1) 1 1), some (fl_ea (.istore_n 3) 1 3), some (fl_e0 (.aload_n 0) 1), some (fl_ea (.iload_n 1) 1 1)], [some (fl_ea (.iload_n 3) 1 3), fl_el (fl_ef (.invokevirtual 153) 3 83 3 1 75 1288) [true, true, true, true], none, none, some (fl_ea (.istore 4) 2 4), none, some (fl_ea (.iload 4) 2 4), none], [some (fl_ea (.ifCond .ne 22) 3 166), none, none, some (fl_ea (.iload_n 2) 1 2), some (fl_ex1 (.iconst 3) 1 3), some (fl_ea (.if_icmp .lt 17) 3 166), none, none], [some (fl_ea (.iload_n 2) 1 2), some (fl_ex1 (.bipush 7) 2 7), none, some (fl_ea (.if_icmp .gt 11) 3 166), none, none, some (fl_e0 (.aload_n 0) 1), some (fl_ea (.iload_n 1) 1 1)], [some (fl_ea (.iload_n 3) 1 3), fl_el (fl_ef (.invokevirtual 153) 3 83 3 1 75 1288) [true, true, true, true], none, none, some (fl_ea (.istore 4) 2 4), none, fl_el (fl_ea (.iload 4) 2 4) [true, true, true, true, true], none], [some (fl_ea (.ifCond .ne 31) 3 199), none, none, some (fl_ea (.iload_n 2) 1 2), some (fl_ex1 (.iconst 3) 1 3), some (fl_ea (.if_icmp .lt 26) 3 199), none, none], [some (fl_ea (.iload_n 2) 1 2), some (fl_ex1 (.bipush 7) 2 7), none, some (fl_ea (.if_icmp .gt 20) 3 199), none, none, some (fl_e0 (.aload_n 0) 1), some (fl_ef (.ldc 142) 2 1048579 0 1 0 1292)], [none, fl_el (fl_ef (.invokevirtual 45) 3 78 2 1 43 1243) [true, true, true, true, true], none, none, some (fl_ea (.ifCond .lt 11) 3 199), none, none, some (fl_e0 (.aload_n 0) 1)]], [[some (fl_ea (.iload_n 1) 1 1), some (fl_ea (.iload_n 3) 1 3), fl_el (fl_ef (.invokevirtual 153) 3 83 3 1 75 1288) [true, true, true], none, none, some (fl_ea (.istore 4) 2 4), none, fl_el (fl_ea (.iload 4) 2 4) [true, true, true, false, true]], [none, some (fl_ea (.ifCond .ge 6) 3 207), none, none, some (fl_ea (.iload 4) 2 4), none, some (fl_e0 (.ireturn) 1), some (fl_ea (.iload_n 2) 1 2)], [some (fl_ex1 (.bipush 8) 2 8), none, some (fl_ea (.if_icmp .ne 42) 3 252), none, none, some (fl_e0 (.aload_n 0) 1), some (fl_e0 (.dup) 1), some (fl_ef (.getfield 150) 3 11 12 0 0 1133)], [none, none, some (fl_ex1 (.iconst 1) 1 1), some (fl_e0 (.iadd) 1), some (fl_ef (.putfield 150) 3 11 12 0 0 1133), none, none, fl_el (fl_e0 (.aload_n 0) 1) [true, true]], [some (fl_ef (.ldc 157) 2 1048580 0 1 0 1293), none, fl_el (fl_ef (.invokevirtual 159) 3 80 2 1 59 1239) [true, true], none, none, some (fl_ea (.istore 5) 2 5), none, some (fl_e0 (.aload_n 0) 1)], [some (fl_ef (.getfield 59) 3 11 7 2 0 1128), none, none, some (fl_ex1 (.sipush 544) 3 544), none, none, some (fl_ea (.iload_n 1) 1 1), some (fl_e0 (.iadd) 1)], [some (fl_ea (.iload 5) 2 5), none, some (fl_ea (.ifCond .ge 7) 3 249), none, none, some (fl_ex1 (.iconst 2) 1 2), some (fl_ea (.goto 5) 3 251), none], [none, some (fl_ea (.iload 5) 2 5), none, some (fl_e0 (.iastore) 1), fl_el (fl_e0 (.aload_n 0) 1) [true], some (fl_ef (.getfield 59) 3 11 7 2 0 1128), none, none]], [[some (fl_ex1 (.sipush 504) 3 504), none, none, some (fl_e0 (.dup2) 1), some (fl_ea (.iaload) 1 2), some (fl_ex1 (.iconst 1) 1 1), some (fl_e0 (.iadd) 1), some (fl_e0 (.iastore) 1)], [fl_el (fl_e0 (.iconst 0) 1) [], some (fl_e0 (.ireturn) 1)]]]
/-- FaultListsModel.readsOutputs()I -/
def fl_c85 : List (List (List (Option fl_E))) := [[[some (fl_e0 (.aload_n 0) 1), some (fl_ef (.getfield 59) 3 11 7 2 0 1128), none, none, some (fl_ex1 (.sipush 504) 3 504), none, none, some (fl_ea (.iaload) 1 2)], [some (fl_ea (.istore_n 1) 1 1), some (fl_e0 (.iconst 0) 1), some (fl_ea (.istore_n 2) 1 2), fl_el (fl_e0 (.aload_n 0) 1) [true, true, true], some (fl_ef (.getfield 28) 3 11 5 0 0 1126), none, none, some (fl_e0 (.aload_n 0) 1)], [some (fl_ef (.getfield 25) 3 11 6 0 0 1127), none, none, some (fl_ea (.if_icmp .lt 14) 3 33), none, none, some (fl_e0 (.aload_n 0) 1), some (fl_ef (.getfield 59) 3 11 7 2 0 1128)], [none, none, some (fl_ex1 (.sipush 507) 3 507), none, none, some (fl_ea (.iaload) 1 2), some (fl_ea (.ifCond .ne 116) 3 146), none], [none, fl_el (fl_e0 (.aload_n 0) 1) [true, true, true], some (fl_ef (.ldc 142) 2 1048579 0 1 0 1292), none, fl_el (fl_ef (.invokevirtual 45) 3 78 2 1 43 1243) [true, true, true], none, none, some (fl_ea (.istore_n 3) 1 3)], [some (fl_ea (.iload_n 3) 1 3), some (fl_ea (.ifCond .ge 12) 3 53), none, none, some (fl_e0 (.aload_n 0) 1), some (fl_ea (.iload_n 1) 1 1), some (fl_ex1 (.iconst (-1)) 1 (-1)), some (fl_ex1 (.iconst 3) 1 3)], [some (fl_e0 (.iconst 0) 1), fl_el (fl_ef (.invokevirtual 144) 3 82 5 1 91 1274) [], none, none, some (fl_e0 (.ireturn) 1), some (fl_ea (.iload_n 3) 1 3), some (fl_ea (.iload_n 1) 1 1), some (fl_ea (.if_icmp .ge 12) 3 67)], [none, none, some (fl_ea (.iload_n 2) 1 2), some (fl_ea (.iload_n 3) 1 3), some (fl_e0 (.ishr) 1), some (fl_ex1 (.iconst 1) 1 1), some (fl_e0 (.iand) 1), some (fl_ex1 (.iconst 1) 1 1)]], [[some (fl_ea (.if_icmp .ne 12) 3 76), none, none, fl_el (fl_e0 (.aload_n 0) 1) [true, true, false, true], some (fl_ea (.iload_n 1) 1 1), some (fl_ex1 (.iconst (-1)) 1 (-1)), some (fl_ex1 (.iconst 5) 1 5), some (fl_ea (.iload_n 3) 1 3)], [fl_el (fl_ef (.invokevirtual 144) 3 82 5 1 91 1274) [], none, none, some (fl_e0 (.ireturn) 1), some (fl_e0 (.aload_n 0) 1), some (fl_ef (.getfield 59) 3 11 7 2 0 1128), none, none], [some (fl_ex1 (.sipush 507) 3 507), none, none, some (fl_ea (.iaload) 1 2), some (fl_ex1 (.iconst 4) 1 4), some (fl_ea (.if_icmp .ne 12) 3 97), none, none], [some (fl_e0 (.aload_n 0) 1), some (fl_ea (.iload_n 1) 1 1), some (fl_ex1 (.iconst (-1)) 1 (-1)), some (fl_ex1 (.iconst 4) 1 4), some (fl_e0 (.iconst 0) 1), fl_el (fl_ef (.invokevirtual 144) 3 82 5 1 91 1274) [], none, none], [some (fl_e0 (.ireturn) 1), some (fl_e0 (.aload_n 0) 1), some (fl_e0 (.dup) 1), some (fl_ef (.getfield 28) 3 11 5 0 0 1126), none, none, some (fl_ex1 (.iconst 1) 1 1), some (fl_e0 (.iadd) 1)], [some (fl_ef (.putfield 28) 3 11 5 0 0 1126), none, none, fl_el (fl_ea (.iload_n 2) 1 2) [true, true, true, true], some (fl_ex1 (.iconst 1) 1 1), some (fl_ea (.iload_n 3) 1 3), some (fl_e0 (.ishl) 1), some (fl_e0 (.ior) 1)], [some (fl_ea (.istore_n 2) 1 2), some (fl_e0 (.aload_n 0) 1), some (fl_ef (.getfield 59) 3 11 7 2 0 1128), none, none, some (fl_ex1 (.sipush 576) 3 576), none, none], [some (fl_e0 (.aload_n 0) 1), some (fl_ef (.getfield 59) 3 11 7 2 0 1128), none, none, some (fl_ex1 (.sipush 507) 3 507), none, none, some (fl_ea (.iaload) 1 2)]], [[some (fl_e0 (.iadd) 1), some (fl_ea (.iload_n 3) 1 3), some (fl_e0 (.iastore) 1), fl_el (fl_e0 (.aload_n 0) 1) [true, true, true], some (fl_ef (.getfield 59) 3 11 7 2 0 1128), none, none, some (fl_ex1 (.sipush 507) 3 507)], [none, none, some (fl_e0 (.dup2) 1), some (fl_ea (.iaload) 1 2), some (fl_ex1 (.iconst 1) 1 1), some (fl_e0 (.iadd) 1), some (fl_e0 (.iastore) 1), some (fl_ea (.goto (-132)) 3 11)], [none, none, some (fl_e0 (.iconst 0) 1), some (fl_e0 (.ireturn) 1)]]]
/-- FaultListsModel.readsNet()I -/
def fl_c86 : List (List (List (Option fl_E))) := [[[some (fl_e0 (.iconst 0) 1), some (fl_ea (.istore_n 1) 1 1), fl_el (fl_ea (.iload_n 1) 1 1) [true, true], some (fl_ex1 (.bipush 126) 2 126), none, some (fl_ea (.if_icmp .ge 20) 3 25), none, none], [some (fl_e0 (.aload_n 0) 1), some (fl_ef (.getfield 59) 3 11 7 2 0 1128), none, none, some (fl_ex1 (.sipush 504) 3 504), none, none, some (fl_ea (.iload_n 1) 1 1)], [some (fl_e0 (.iadd) 1), some (fl_e0 (.iconst 0) 1), some (fl_e0 (.iastore) 1), fl_el (fl_ew (.iinc 1 1) 3 1 0 0 0 0 1 0 []) [true, true], none, none, some (fl_ea (.goto (-20)) 3 2), none], [none, some (fl_e0 (.aload_n 0) 1), some (fl_e0 (.iconst 0) 1), some (fl_ef (.putfield 150) 3 11 12 0 0 1133), none, none, fl_el (fl_e0 (.aload_n 0) 1) [true], some (fl_ef (.ldc 162) 2 1048577 0 1 0 1238)], [none, fl_el (fl_ef (.invokevirtual 159) 3 80 2 1 59 1239) [true], none, none, some (fl_ex1 (.iconst 1) 1 1), some (fl_e0 (.iadd) 1), some (fl_ea (.istore_n 1) 1 1), some (fl_ea (.iload_n 1) 1 1)], [some (fl_ea (.ifCond .ne 12) 3 52), none, none, some (fl_e0 (.aload_n 0) 1), some (fl_e0 (.iconst 0) 1), some (fl_ex1 (.iconst (-1)) 1 (-1)), some (fl_ex1 (.iconst 3) 1 3), some (fl_e0 (.iconst 0) 1)], [fl_el (fl_ef (.invokevirtual 144) 3 82 5 1 91 1274) [], none, none, some (fl_e0 (.ireturn) 1), some (fl_e0 (.aload_n 0) 1), some (fl_ef (.getfield 59) 3 11 7 2 0 1128), none, none], [some (fl_ex1 (.sipush 504) 3 504), none, none, some (fl_ea (.iload_n 1) 1 1), some (fl_e0 (.iastore) 1), fl_el (fl_e0 (.aload_n 0) 1) [true, true], some (fl_ef (.getfield 59) 3 11 7 2 0 1128), none]], [[none, some (fl_ex1 (.sipush 505) 3 505), none, none, some (fl_ea (.iload_n 1) 1 1), some (fl_e0 (.iastore) 1), fl_el (fl_e0 (.iconst 0) 1) [true, true], some (fl_ea (.istore_n 2) 1 2)], [fl_el (fl_ea (.iload_n 2) 1 2) [true, true, true], some (fl_ea (.iload_n 1) 1 1), some (fl_ea (.if_icmp .ge 20) 3 94), none, none, some (fl_e0 (.aload_n 0) 1), some (fl_ef (.getfield 59) 3 11 7 2 0 1128), none], [none, some (fl_ex1 (.sipush 544) 3 544), none, none, some (fl_ea (.iload_n 2) 1 2), some (fl_e0 (.iadd) 1), some (fl_ex1 (.iconst 2) 1 2), some (fl_e0 (.iastore) 1)], [fl_el (fl_ew (.iinc 2 1) 3 2 0 0 0 0 1 0 []) [true, true, true], none, none, some (fl_ea (.goto (-19)) 3 72), none, none, fl_el (fl_e0 (.aload_n 0) 1) [true], some (fl_ef (.ldc 164) 2 1048578 0 1 0 1282)], [none, fl_el (fl_ef (.invokevirtual 159) 3 80 2 1 59 1239) [true], none, none, some (fl_ea (.ifCond .ne 17) 3 117), none, none, some (fl_e0 (.aload_n 0) 1)], [fl_el (fl_ef (.invokevirtual 166) 3 84 1 1 107 1283) [true], none, none, some (fl_ea (.istore_n 2) 1 2), some (fl_ea (.iload_n 2) 1 2), some (fl_ea (.ifCond .ge 5) 3 114), none, none], [some (fl_ea (.iload_n 2) 1 2), some (fl_e0 (.ireturn) 1), some (fl_ea (.goto (-20)) 3 94), none, none, some (fl_e0 (.aload_n 0) 1), some (fl_ef (.ldc 169) 2 1048581 0 1 0 1294), none], [fl_el (fl_ef (.invokevirtual 159) 3 80 2 1 59 1239) [true], none, none, some (fl_ea (.ifCond .ge 19) 3 142), none, none, some (fl_e0 (.aload_n 0) 1), some (fl_e0 (.aload_n 0) 1)]], [[some (fl_ef (.getfield 59) 3 11 7 2 0 1128), none, none, some (fl_ex1 (.sipush 504) 3 504), none, none, some (fl_ea (.iaload) 1 2), some (fl_ex1 (.iconst (-1)) 1 (-1))], [some (fl_ex1 (.iconst 3) 1 3), some (fl_e0 (.iconst 0) 1), fl_el (fl_ef (.invokevirtual 144) 3 82 5 1 91 1274) [], none, none, some (fl_e0 (.ireturn) 1), some (fl_e0 (.aload_n 0) 1), fl_el (fl_ef (.invokevirtual 171) 3 85 1 1 75 1295) [true]], [none, none, some (fl_ea (.istore_n 2) 1 2), some (fl_ea (.iload_n 2) 1 2), some (fl_ea (.ifCond .ge 5) 3 153), none, none, some (fl_ea (.iload_n 2) 1 2)], [some (fl_e0 (.ireturn) 1), some (fl_e0 (.iconst 0) 1), some (fl_ea (.istore_n 3) 1 3), fl_el (fl_ea (.iload_n 3) 1 3) [true, false, false, true], some (fl_e0 (.aload_n 0) 1), some (fl_ef (.getfield 59) 3 11 7 2 0 1128), none, none], [some (fl_ex1 (.sipush 504) 3 504), none, none, some (fl_ea (.iaload) 1 2), some (fl_ea (.if_icmp .ge 93) 3 257), none, none, some (fl_e0 (.aload_n 0) 1)], [some (fl_ef (.getfield 59) 3 11 7 2 0 1128), none, none, some (fl_ex1 (.sipush 556) 3 556), none, none, some (fl_e0 (.aload_n 0) 1), some (fl_ef (.getfield 59) 3 11 7 2 0 1128)], [none, none, some (fl_ex1 (.sipush 520) 3 520), none, none, some (fl_ea (.iload_n 3) 1 3), some (fl_e0 (.iadd) 1), some (fl_ea (.iaload) 1 2)], [some (fl_e0 (.iadd) 1), some (fl_ea (.iaload) 1 2), some (fl_ea (.istore 4) 2 4), none, some (fl_e0 (.aload_n 0) 1), some (fl_ef (.getfield 59) 3 11 7 2 0 1128), none, none]], [[some (fl_ex1 (.sipush 508) 3 508), none, none, some (fl_ea (.iload_n 3) 1 3), some (fl_e0 (.iadd) 1), some (fl_ea (.iaload) 1 2), some (fl_ex1 (.bipush 8) 2 8), none], [some (fl_ea (.if_icmp .ne 51) 3 251), none, none, some (fl_ea (.iload 4) 2 4), none, some (fl_e0 (.aload_n 0) 1), some (fl_ef (.getfield 59) 3 11 7 2 0 1128), none], [none, some (fl_ex1 (.sipush 504) 3 504), none, none, some (fl_ea (.iaload) 1 2), some (fl_ea (.if_icmp .lt 38) 3 251), none, none], [some (fl_e0 (.aload_n 0) 1), some (fl_e0 (.iconst 0) 1), some (fl_ef (.putfield 136) 3 11 11 0 0 1132), none, none, fl_el (fl_e0 (.aload_n 0) 1) [true, false, false, true, true], some (fl_ex1 (.iconst 1) 1 1), some (fl_e0 (.aload_n 0) 1)], [some (fl_ef (.getfield 59) 3 11 7 2 0 1128), none, none, some (fl_ex1 (.sipush 504) 3 504), none, none, some (fl_ea (.iaload) 1 2), fl_el (fl_ef (.invokevirtual 139) 3 81 3 1 59 1278) [true, false, false, true, true]], [none, none, some (fl_e0 (.aload_n 0) 1), some (fl_ex1 (.iconst 2) 1 2), some (fl_ea (.iload_n 3) 1 3), fl_el (fl_ef (.invokevirtual 139) 3 81 3 1 59 1278) [true, false, false, false, true], none, none], [some (fl_e0 (.aload_n 0) 1), some (fl_ex1 (.iconst 5) 1 5), some (fl_ea (.iload 4) 2 4), none, fl_el (fl_ef (.invokevirtual 139) 3 81 3 1 59 1278) [], none, none, some (fl_ex1 (.sipush (-200)) 3 (-200))], [none, none, some (fl_e0 (.ireturn) 1), fl_el (fl_ew (.iinc 3 1) 3 3 0 0 0 0 1 0 []) [true, false, false, true], none, none, some (fl_ea (.goto (-99)) 3 155), none]], [[none, some (fl_e0 (.iconst 0) 1), some (fl_e0 (.ireturn) 1)]]]
/-- FaultListsModel.copies(IIII)V -/
def fl_c87 : List (List (List (Option fl_E))) := [[[some (fl_ea (.iload_n 3) 1 3), some (fl_ea (.istore 5) 2 5), none, fl_el (fl_ea (.iload 5) 2 5) [true, true, true, false, true, true], none, some (fl_ea (.iload 4) 2 4), none, some (fl_ea (.if_icmp .ge 33) 3 40)], [none, none, some (fl_e0 (.aload_n 0) 1), some (fl_ef (.getfield 59) 3 11 7 2 0 1128), none, none, some (fl_ea (.iload_n 2) 1 2), some (fl_ex1 (.bipush 126) 2 126)], [none, some (fl_e0 (.imul) 1), some (fl_ea (.iload 5) 2 5), none, some (fl_e0 (.iadd) 1), some (fl_e0 (.aload_n 0) 1), some (fl_ef (.getfield 59) 3 11 7 2 0 1128), none], [none, some (fl_ea (.iload_n 1) 1 1), some (fl_ex1 (.bipush 126) 2 126), none, some (fl_e0 (.imul) 1), some (fl_ea (.iload 5) 2 5), none, some (fl_e0 (.iadd) 1)], [some (fl_ea (.iaload) 1 2), some (fl_e0 (.iastore) 1), fl_el (fl_ew (.iinc 5 1) 3 5 0 0 0 0 1 0 []) [true, true, true, false, true, true], none, none, some (fl_ea (.goto (-34)) 3 3), none, none], [some (fl_e0 (.return_) 1)]]]
/-- FaultListsModel.faults()I -/
def fl_c88 : List (List (List (Option fl_E))) := [[[some (fl_ex1 (.iconst 2) 1 2), some (fl_e0 (.aload_n 0) 1), some (fl_ef (.getfield 59) 3 11 7 2 0 1128), none, none, some (fl_e0 (.iconst 0) 1), some (fl_ea (.iaload) 1 2), some (fl_e0 (.aload_n 0) 1)], [some (fl_ef (.getfield 59) 3 11 7 2 0 1128), none, none, some (fl_ex1 (.iconst 2) 1 2), some (fl_ea (.iaload) 1 2), some (fl_e0 (.iadd) 1), some (fl_e0 (.imul) 1), some (fl_e0 (.ireturn) 1)]]]
/-- FaultListsModel.net()I -/
def fl_c89 : List (List (List (Option fl_E))) := [[[some (fl_e0 (.aload_n 0) 1), some (fl_e0 (.iconst 0) 1), some (fl_ef (.putfield 3) 3 11 0 0 0 1121), none, none, fl_el (fl_e0 (.aload_n 0) 1) [true], fl_el (fl_ef (.invokevirtual 174) 3 72 1 1 27 1230) [true], none], [none, some (fl_e0 (.aload_n 0) 1), some (fl_e0 (.iconst 0) 1), some (fl_ef (.putfield 136) 3 11 11 0 0 1132), none, none, fl_el (fl_e0 (.aload_n 0) 1) [true], fl_el (fl_ef (.invokevirtual 177) 3 86 1 1 91 1234) [true]], [none, none, some (fl_ea (.istore_n 1) 1 1), some (fl_ea (.iload_n 1) 1 1), some (fl_ea (.ifCond .ge 5) 3 25), none, none, some (fl_ea (.iload_n 1) 1 1)], [some (fl_e0 (.ireturn) 1), some (fl_e0 (.aload_n 0) 1), some (fl_e0 (.iconst 0) 1), some (fl_ef (.putfield 136) 3 11 11 0 0 1132), none, none, fl_el (fl_e0 (.aload_n 0) 1) [true], some (fl_ex1 (.iconst 4) 1 4)], [some (fl_e0 (.iconst 0) 1), some (fl_e0 (.iconst 0) 1), some (fl_ex1 (.bipush 126) 2 126), none, fl_el (fl_ef (.invokevirtual 180) 3 87 5 1 107 1299) [true], none, none, some (fl_e0 (.aload_n 0) 1)], [some (fl_ef (.getfield 62) 3 11 8 2 0 1129), none, none, some (fl_e0 (.iconst 0) 1), some (fl_e0 (.lconst 0) 1), some (fl_e0 (.lastore) 1), fl_el (fl_e0 (.aload_n 0) 1) [true], fl_el (fl_ef (.invokevirtual 129) 3 88 1 1 27 1303) []], [none, none, some (fl_e0 (.ireturn) 1)]]]
/-- FaultLists.cause(II)I -/
def fl_c90 : List (List (List (Option fl_E))) := [[[some (fl_ea (.iload_n 1) 1 1), some (fl_ea (.ifCond .lt 17) 3 18), none, none, some (fl_ea (.iload_n 1) 1 1), some (fl_e0 (.aload_n 0) 1), some (fl_ef (.getfield 24) 3 10 2 2 0 387), none], [none, some (fl_ef (.getfield 115) 3 6 1 2 0 157), none, none, fl_el (fl_ef (.invokevirtual 87) 3 31 1 1 21 429) [true, true, true], none, none, some (fl_ea (.if_icmp .lt 5) 3 20)], [none, none, fl_el (fl_ex1 (.iconst (-1)) 1 (-1)) [], some (fl_e0 (.ireturn) 1), some (fl_ea (.iload_n 2) 1 2), some (fl_ew (.lookupswitch 51 #[(0, 27), (1, 39)]) 27 72 0 0 0 0 0 0 [(0, 48), (1, 60)]), none, none], [none, none, none, none, none, none, none, none], [none, none, none, none, none, none, none, none], [none, none, none, none, none, none, none, none], [some (fl_e0 (.aload_n 0) 1), some (fl_ef (.getfield 24) 3 10 2 2 0 387), none, none, some (fl_ef (.getfield 115) 3 6 1 2 0 157), none, none, some (fl_ea (.iload_n 1) 1 1)], [fl_el (fl_ef (.invokevirtual 118) 3 41 2 1 37 639) [], none, none, some (fl_e0 (.ireturn) 1), some (fl_e0 (.aload_n 0) 1), some (fl_ef (.getfield 24) 3 10 2 2 0 387), none, none]], [[some (fl_ef (.getfield 122) 3 6 2 2 0 159), none, none, some (fl_ea (.iload_n 1) 1 1), fl_el (fl_ef (.invokevirtual 118) 3 41 2 1 37 639) [], none, none, some (fl_e0 (.ireturn) 1)], [some (fl_ex1 (.iconst (-1)) 1 (-1)), some (fl_e0 (.ireturn) 1)]]]
/-- FaultListsModel.cause(II)I -/
def fl_c91 : List (List (List (Option fl_E))) := [[[some (fl_e0 (.aload_n 0) 1), some (fl_e0 (.iconst 0) 1), some (fl_ef (.putfield 3) 3 11 0 0 0 1121), none, none, fl_el (fl_ea (.iload_n 1) 1 1) [true, true, true], some (fl_e0 (.i2l) 1), some (fl_e0 (.lconst 0) 1)], [some (fl_e0 (.aload_n 0) 1), some (fl_ef (.getfield 136) 3 11 11 0 0 1132), none, none, some (fl_ex1 (.iconst 1) 1 1), some (fl_e0 (.isub) 1), some (fl_e0 (.i2l) 1), fl_el (fl_ef (.invokestatic 21) 3 37 3 0 96 1112) [true, true, true]], [none, none, some (fl_ea (.ifCond .eq 13) 3 31), none, none, some (fl_ea (.iload_n 2) 1 2), some (fl_e0 (.i2l) 1), some (fl_e0 (.lconst 0) 1)], [some (fl_ew (.lconst 1) 1 0 0 0 0 0 0 1 []), fl_el (fl_ef (.invokestatic 21) 3 37 3 0 96 1112) [true, true, true], none, none, some (fl_ea (.ifCond .ne 5) 3 33), none, none, fl_el (fl_ex1 (.iconst (-1)) 1 (-1)) []], [some (fl_e0 (.ireturn) 1), some (fl_ea (.iload_n 2) 1 2), some (fl_ea (.ifCond .ne 12) 3 46), none, none, some (fl_e0 (.aload_n 0) 1), some (fl_ef (.getfield 65) 3 11 9 2 0 1130), none], [none, some (fl_ea (.iload_n 1) 1 1), some (fl_ea (.iaload) 1 2), some (fl_ea (.goto 9) 3 52), none, none, some (fl_e0 (.aload_n 0) 1), some (fl_ef (.getfield 68) 3 11 10 2 0 1131)], [none, none, some (fl_ea (.iload_n 1) 1 1), some (fl_ea (.iaload) 1 2), some (fl_e0 (.ireturn) 1)]]]
/-- FaultLists$Net.readersOf(I)I -/
def fl_c92 : List (List (List (Option fl_E))) := [[[some (fl_e0 (.iconst 0) 1), some (fl_ea (.istore_n 2) 1 2), some (fl_e0 (.iconst 0) 1), some (fl_ea (.istore_n 3) 1 3), fl_el (fl_ea (.iload_n 3) 1 3) [true, true, true, true], some (fl_e0 (.aload_n 0) 1), some (fl_ef (.getfield 42) 3 4 2 0 0 86), none], [none, some (fl_ea (.if_icmp .ge 29) 3 38), none, none, some (fl_ea (.iload_n 2) 1 2), some (fl_e0 (.aload_n 0) 1), some (fl_ef (.getfield 29) 3 4 9 2 0 118), none], [none, some (fl_ea (.iload_n 3) 1 3), fl_el (fl_ef (.invokevirtual 73) 3 24 2 1 33 606) [true, true, false, true], none, none, some (fl_ea (.iload_n 1) 1 1), some (fl_ea (.if_icmp .ne 7) 3 29), none], [none, some (fl_ex1 (.iconst 1) 1 1), some (fl_ea (.goto 4) 3 30), none, none, some (fl_e0 (.iconst 0) 1), some (fl_e0 (.iadd) 1), some (fl_ea (.istore_n 2) 1 2)], [some (fl_ew (.iinc 3 1) 3 3 0 0 0 0 1 0 []), none, none, some (fl_ea (.goto (-31)) 3 4), none, none, some (fl_ea (.iload_n 2) 1 2), some (fl_e0 (.ireturn) 1)]]]
/-- FaultLists.line(II)I -/
def fl_c93 : List (List (List (Option fl_E))) := [[[some (fl_e0 (.aload_n 0) 1), some (fl_ef (.getfield 31) 3 10 3 2 0 388), none, none, some (fl_ef (.getfield 72) 3 7 0 2 0 230), none, none, some (fl_ea (.astore_n 3) 1 3)], [some (fl_ea (.aload_n 3) 1 3), some (fl_ea (.iload_n 1) 1 1), fl_el (fl_ef (.invokevirtual 125) 3 64 2 1 36 780) [false, true, true, true], none, none, some (fl_ea (.ifCond .ne 11) 3 24), none, none], [some (fl_ef (.new 128) 3 0 0 1 0 1024), none, none, none, none, none, none, none], [some (fl_ea (.iload_n 2) 1 2), some (fl_ew (.tableswitch 95 0 5 #[39, 48, 57, 66, 75, 89]) 39 120 0 0 0 0 0 0 [(0, 64), (1, 73), (2, 82), (3, 91), (4, 100), (5, 114)]), none, none, none, none, none, none], [none, none, none, none, none, none, none, none], [none, none, none, none, none, none, none, none], [none, none, none, none, none, none, none, none], [none, none, none, none, none, none, none, none]], [[some (fl_ea (.aload_n 3) 1 3), some (fl_ef (.getfield 131) 3 4 5 2 0 103), none, none, some (fl_ea (.iload_n 1) 1 1), fl_el (fl_ef (.invokevirtual 135) 3 24 2 1 33 822) [], none, none], [some (fl_e0 (.ireturn) 1), some (fl_ea (.aload_n 3) 1 3), some (fl_ef (.getfield 138) 3 4 6 2 0 107), none, none, some (fl_ea (.iload_n 1) 1 1), fl_el (fl_ef (.invokevirtual 135) 3 24 2 1 33 822) [], none], [none, some (fl_e0 (.ireturn) 1), some (fl_ea (.aload_n 3) 1 3), some (fl_ef (.getfield 141) 3 4 7 2 0 111), none, none, some (fl_ea (.iload_n 1) 1 1), fl_el (fl_ef (.invokevirtual 135) 3 24 2 1 33 822) []], [none, none, some (fl_e0 (.ireturn) 1), some (fl_ea (.aload_n 3) 1 3), some (fl_ef (.getfield 144) 3 4 8 2 0 117), none, none, some (fl_ea (.iload_n 1) 1 1)], [fl_el (fl_ef (.invokevirtual 135) 3 24 2 1 33 822) [], none, none, some (fl_e0 (.ireturn) 1), some (fl_ea (.aload_n 3) 1 3), some (fl_ea (.iload_n 1) 1 1), fl_el (fl_ef (.invokevirtual 147) 3 61 2 1 52 832) [], none], [none, some (fl_ea (.ifCond .eq 7) 3 112), none, none, some (fl_ex1 (.iconst 1) 1 1), some (fl_ea (.goto 4) 3 113), none, none], [some (fl_e0 (.iconst 0) 1), some (fl_e0 (.ireturn) 1), some (fl_ea (.aload_n 3) 1 3), some (fl_ea (.iload_n 1) 1 1), fl_el (fl_ef (.invokevirtual 150) 3 92 2 1 68 1085) [], none, none, some (fl_e0 (.ireturn) 1)], [some (fl_ef (.new 128) 3 0 0 1 0 1024), none, none, none, none, none, none, none]]]
/-- FaultListsLaw.line(LFaultLists;II[J)I -/
def fl_c94 : List (List (List (Option fl_E))) := [[[some (fl_ea (.aload_n 3) 1 3), some (fl_e0 (.iconst 0) 1), some (fl_e0 (.aload_n 0) 1), some (fl_ea (.iload_n 1) 1 1), some (fl_ea (.iload_n 2) 1 2), fl_el (fl_ew (.invokevirtual 7) 3 93 3 1 74 1020 0 0 [(0, 15)]) [], none, none], [some (fl_e0 (.i2l) 1), some (fl_e0 (.lastore) 1), some (fl_ea (.goto 7) 3 17), none, none, none, none, some (fl_ex1 (.iconst 1) 1 1)], [some (fl_e0 (.ireturn) 1), some (fl_e0 (.iconst 0) 1), some (fl_e0 (.ireturn) 1)]]]
/-- FaultListsModel.lines()I -/
def fl_c95 : List (List (List (Option fl_E))) := [[[some (fl_e0 (.aload_n 0) 1), some (fl_ef (.getfield 59) 3 11 7 2 0 1128), none, none, some (fl_e0 (.iconst 0) 1), some (fl_ea (.iaload) 1 2), some (fl_e0 (.ireturn) 1)]]]
/-- FaultListsModel.isLine(I)Z -/
def fl_c96 : List (List (List (Option fl_E))) := [[[some (fl_ea (.iload_n 1) 1 1), some (fl_e0 (.i2l) 1), some (fl_e0 (.lconst 0) 1), some (fl_e0 (.aload_n 0) 1), fl_el (fl_ef (.invokevirtual 126) 3 95 1 1 27 1319) [], none, none, some (fl_ex1 (.iconst 1) 1 1)], [some (fl_e0 (.isub) 1), some (fl_e0 (.i2l) 1), fl_el (fl_ef (.invokestatic 21) 3 37 3 0 96 1112) [], none, none, some (fl_ef (.ireturn) 1 0 0 3 0 0)]]]
/-- FaultListsModel.isRegister(I)Z -/
def fl_c97 : List (List (List (Option fl_E))) := [[[some (fl_e0 (.aload_n 0) 1), some (fl_ef (.getfield 59) 3 11 7 2 0 1128), none, none, some (fl_ex1 (.iconst 4) 1 4), some (fl_ea (.iload_n 1) 1 1), some (fl_e0 (.iadd) 1), some (fl_ea (.iaload) 1 2)], [some (fl_ex1 (.bipush 8) 2 8), none, some (fl_ea (.if_icmp .ne 7) 3 17), none, none, some (fl_ex1 (.iconst 1) 1 1), some (fl_ea (.goto 4) 3 18), none], [none, some (fl_e0 (.iconst 0) 1), some (fl_ef (.ireturn) 1 0 0 3 0 0)]]]
/-- FaultListsModel.isOutput(I)Z -/
def fl_c98 : List (List (List (Option fl_E))) := [[[some (fl_e0 (.iconst 0) 1), some (fl_ea (.istore_n 2) 1 2), fl_el (fl_ea (.iload_n 2) 1 2) [true, true, true], some (fl_e0 (.aload_n 0) 1), some (fl_ef (.getfield 59) 3 11 7 2 0 1128), none, none, some (fl_ex1 (.iconst 3) 1 3)], [some (fl_ea (.iaload) 1 2), some (fl_ea (.if_icmp .ge 24) 3 33), none, none, some (fl_e0 (.aload_n 0) 1), some (fl_ef (.getfield 59) 3 11 7 2 0 1128), none, none], [some (fl_ex1 (.bipush 72) 2 72), none, some (fl_ea (.iload_n 2) 1 2), some (fl_e0 (.iadd) 1), some (fl_ea (.iaload) 1 2), some (fl_ea (.iload_n 1) 1 1), some (fl_ea (.if_icmp .ne 5) 3 27), none], [none, some (fl_ex1 (.iconst 1) 1 1), some (fl_ef (.ireturn) 1 0 0 3 0 0), some (fl_ew (.iinc 2 1) 3 2 0 0 0 0 1 0 []), none, none, some (fl_ea (.goto (-28)) 3 2), none], [none, some (fl_e0 (.iconst 0) 1), some (fl_ef (.ireturn) 1 0 0 3 0 0)]]]
/-- FaultListsModel.readersOf(I)I -/
def fl_c99 : List (List (List (Option fl_E))) := [[[some (fl_e0 (.iconst 0) 1), some (fl_ea (.istore_n 2) 1 2), some (fl_e0 (.iconst 0) 1), some (fl_ea (.istore_n 3) 1 3), fl_el (fl_ea (.iload_n 3) 1 3) [true, true, true, true], some (fl_e0 (.aload_n 0) 1), some (fl_ef (.getfield 59) 3 11 7 2 0 1128), none], [none, some (fl_ex1 (.iconst 2) 1 2), some (fl_ea (.iaload) 1 2), some (fl_ea (.if_icmp .ge 33) 3 44), none, none, some (fl_ea (.iload_n 2) 1 2), some (fl_e0 (.aload_n 0) 1)], [some (fl_ef (.getfield 59) 3 11 7 2 0 1128), none, none, some (fl_ex1 (.bipush 52) 2 52), none, some (fl_ea (.iload_n 3) 1 3), some (fl_e0 (.iadd) 1), some (fl_ea (.iaload) 1 2)], [some (fl_ea (.iload_n 1) 1 1), some (fl_ea (.if_icmp .ne 7) 3 32), none, none, some (fl_ex1 (.iconst 1) 1 1), some (fl_ea (.goto 4) 3 33), none, none], [some (fl_e0 (.iconst 0) 1), fl_el (fl_ef (.invokestatic 49) 3 79 1 0 16 1271) [true, true, false, true], none, none, some (fl_e0 (.iadd) 1), some (fl_ea (.istore_n 2) 1 2), some (fl_ew (.iinc 3 1) 3 3 0 0 0 0 1 0 []), none], [none, some (fl_ea (.goto (-37)) 3 4), none, none, some (fl_ea (.iload_n 2) 1 2), some (fl_e0 (.ireturn) 1)]]]
/-- FaultListsModel.line(II)I -/
def fl_c100 : List (List (List (Option fl_E))) := [[[some (fl_e0 (.aload_n 0) 1), some (fl_e0 (.aload_n 0) 1), some (fl_ea (.iload_n 1) 1 1), fl_el (fl_ef (.invokevirtual 184) 3 96 2 1 43 1315) [true, true, true], none, none, some (fl_ea (.ifCond .eq 15) 3 21), none], [none, some (fl_ea (.iload_n 2) 1 2), some (fl_e0 (.i2l) 1), some (fl_e0 (.lconst 0) 1), some (fl_ew (.ldc2_w 187) 3 0 0 0 0 1323 0 5 []), none, none, fl_el (fl_ef (.invokestatic 21) 3 37 3 0 96 1112) [true, true, true]], [none, none, some (fl_ea (.ifCond .ne 7) 3 25), none, none, some (fl_ex1 (.iconst 1) 1 1), some (fl_ea (.goto 4) 3 26), none], [none, some (fl_e0 (.iconst 0) 1), fl_el (fl_ef (.invokestatic 49) 3 79 1 0 16 1271) [true, true, true], none, none, some (fl_ef (.putfield 3) 3 11 0 0 0 1121), none, none], [fl_el (fl_e0 (.aload_n 0) 1) [true, true, true], some (fl_ef (.getfield 3) 3 11 0 0 0 1121), none, none, some (fl_ex1 (.iconst 1) 1 1), some (fl_ea (.if_icmp .ne 5) 3 42), none, none], [some (fl_e0 (.iconst 0) 1), some (fl_e0 (.ireturn) 1), some (fl_ea (.iload_n 2) 1 2), some (fl_ew (.tableswitch 109 0 4 #[33, 42, 52, 78, 100]) 33 152 0 0 0 0 0 0 [(0, 76), (1, 85), (2, 95), (3, 121), (4, 143)]), none, none, none, none], [none, none, none, none, none, none, none, none], [none, none, none, none, none, none, none, none]], [[none, none, none, none, none, none, none, none], [none, none, none, none, some (fl_e0 (.aload_n 0) 1), some (fl_ef (.getfield 59) 3 11 7 2 0 1128), none, none], [some (fl_ex1 (.iconst 4) 1 4), some (fl_ea (.iload_n 1) 1 1), some (fl_e0 (.iadd) 1), some (fl_ea (.iaload) 1 2), some (fl_e0 (.ireturn) 1), some (fl_e0 (.aload_n 0) 1), some (fl_ef (.getfield 59) 3 11 7 2 0 1128), none], [none, some (fl_ex1 (.bipush 28) 2 28), none, some (fl_ea (.iload_n 1) 1 1), some (fl_e0 (.iadd) 1), some (fl_ea (.iaload) 1 2), some (fl_e0 (.ireturn) 1), some (fl_e0 (.aload_n 0) 1)], [some (fl_ef (.getfield 59) 3 11 7 2 0 1128), none, none, some (fl_ex1 (.bipush 28) 2 28), none, some (fl_ea (.iload_n 1) 1 1), some (fl_e0 (.iadd) 1), some (fl_ea (.iaload) 1 2)], [some (fl_ea (.ifCond .ne 7) 3 111), none, none, some (fl_ex1 (.iconst (-1)) 1 (-1)), some (fl_ea (.goto 12) 3 120), none, none, some (fl_e0 (.aload_n 0) 1)], [some (fl_ef (.getfield 59) 3 11 7 2 0 1128), none, none, some (fl_ex1 (.bipush 16) 2 16), none, some (fl_ea (.iload_n 1) 1 1), some (fl_e0 (.iadd) 1), some (fl_ea (.iaload) 1 2)], [some (fl_e0 (.ireturn) 1), some (fl_e0 (.aload_n 0) 1), some (fl_ea (.iload_n 1) 1 1), fl_el (fl_ef (.invokevirtual 132) 3 97 2 1 43 1324) [true, true], none, none, some (fl_ea (.ifCond .eq 15) 3 141), none]], [[none, some (fl_e0 (.aload_n 0) 1), some (fl_ef (.getfield 59) 3 11 7 2 0 1128), none, none, some (fl_ex1 (.bipush 40) 2 40), none, some (fl_ea (.iload_n 1) 1 1)], [some (fl_e0 (.iadd) 1), some (fl_ea (.iaload) 1 2), some (fl_ea (.goto 4) 3 142), none, none, some (fl_ex1 (.iconst (-1)) 1 (-1)), some (fl_e0 (.ireturn) 1), some (fl_e0 (.aload_n 0) 1)], [some (fl_ea (.iload_n 1) 1 1), fl_el (fl_ef (.invokevirtual 189) 3 98 2 1 59 1328) [], none, none, fl_el (fl_ef (.invokestatic 49) 3 79 1 0 16 1271) [], none, none, some (fl_e0 (.ireturn) 1)], [some (fl_e0 (.aload_n 0) 1), some (fl_ea (.iload_n 1) 1 1), fl_el (fl_ef (.invokevirtual 192) 3 99 2 1 75 1332) [], none, none, some (fl_e0 (.ireturn) 1)]]]
/-- FaultListsModel.thrown()I -/
def fl_c101 : List (List (List (Option fl_E))) := [[[some (fl_e0 (.aload_n 0) 1), some (fl_ef (.getfield 3) 3 11 0 0 0 1121), none, none, some (fl_e0 (.ireturn) 1)]]]
/-- FaultLists.pin(I)I -/
def fl_c102 : List (List (List (Option fl_E))) := [[[some (fl_ea (.iload_n 1) 1 1), some (fl_ea (.ifCond .lt 17) 3 18), none, none, some (fl_ea (.iload_n 1) 1 1), some (fl_e0 (.aload_n 0) 1), some (fl_ef (.getfield 31) 3 10 3 2 0 388), none], [none, some (fl_ef (.getfield 72) 3 7 0 2 0 230), none, none, some (fl_ef (.getfield 153) 3 4 2 0 0 89), none, none, some (fl_ea (.if_icmp .lt 11) 3 26)], [none, none, fl_el (fl_ef (.new 128) 3 0 0 1 0 1024) [], none, none, none, none, none], [none, none, some (fl_e0 (.aload_n 0) 1), some (fl_ef (.getfield 31) 3 10 3 2 0 388), none, none, some (fl_ef (.getfield 72) 3 7 0 2 0 230), none], [none, some (fl_ef (.getfield 157) 3 4 9 2 0 120), none, none, some (fl_ea (.iload_n 1) 1 1), fl_el (fl_ef (.invokevirtual 135) 3 24 2 1 33 822) [], none, none], [some (fl_e0 (.ireturn) 1)]]]
/-- FaultListsLaw.pin(LFaultLists;I[J)I -/
def fl_c103 : List (List (List (Option fl_E))) := [[[some (fl_ea (.aload_n 2) 1 2), some (fl_e0 (.iconst 0) 1), some (fl_e0 (.aload_n 0) 1), some (fl_ea (.iload_n 1) 1 1), fl_el (fl_ew (.invokevirtual 15) 3 102 2 1 42 1089 0 0 [(0, 13)]) [], none, none, some (fl_e0 (.i2l) 1)], [some (fl_e0 (.lastore) 1), some (fl_ea (.goto 6) 3 15), none, none, none, some (fl_ex1 (.iconst 1) 1 1), some (fl_e0 (.ireturn) 1), some (fl_e0 (.iconst 0) 1)], [some (fl_e0 (.ireturn) 1)]]]
/-- FaultListsModel.pin(I)I -/
def fl_c104 : List (List (List (Option fl_E))) := [[[some (fl_e0 (.aload_n 0) 1), some (fl_ea (.iload_n 1) 1 1), some (fl_e0 (.i2l) 1), some (fl_e0 (.lconst 0) 1), some (fl_e0 (.aload_n 0) 1), some (fl_ef (.getfield 59) 3 11 7 2 0 1128), none, none], [some (fl_ex1 (.iconst 2) 1 2), some (fl_ea (.iaload) 1 2), some (fl_ex1 (.iconst 1) 1 1), some (fl_e0 (.isub) 1), some (fl_e0 (.i2l) 1), fl_el (fl_ef (.invokestatic 21) 3 37 3 0 96 1112) [true, true], none, none], [some (fl_ea (.ifCond .ne 7) 3 23), none, none, some (fl_ex1 (.iconst 1) 1 1), some (fl_ea (.goto 4) 3 24), none, none, some (fl_e0 (.iconst 0) 1)], [fl_el (fl_ef (.invokestatic 49) 3 79 1 0 16 1271) [true, true], none, none, some (fl_ef (.putfield 3) 3 11 0 0 0 1121), none, none, fl_el (fl_e0 (.aload_n 0) 1) [true, true], some (fl_ef (.getfield 3) 3 11 0 0 0 1121)], [none, none, some (fl_ex1 (.iconst 1) 1 1), some (fl_ea (.if_icmp .ne 7) 3 42), none, none, some (fl_e0 (.iconst 0) 1), some (fl_ea (.goto 12) 3 51)], [none, none, some (fl_e0 (.aload_n 0) 1), some (fl_ef (.getfield 59) 3 11 7 2 0 1128), none, none, some (fl_ex1 (.bipush 52) 2 52), none], [some (fl_ea (.iload_n 1) 1 1), some (fl_e0 (.iadd) 1), some (fl_ea (.iaload) 1 2), some (fl_e0 (.ireturn) 1)]]]
/-- FaultLists$Cells.at(I)J -/
def fl_c105 : List (List (List (Option fl_E))) := [[[some (fl_ea (.iload_n 1) 1 1), some (fl_ea (.ifCond .lt 21) 3 22), none, none, some (fl_ea (.iload_n 1) 1 1), some (fl_e0 (.aload_n 0) 1), some (fl_ef (.getfield 7) 3 1 0 2 0 45), none], [none, some (fl_ea (.arraylength) 1 3), some (fl_ea (.if_icmp .ge 12) 3 22), none, none, some (fl_e0 (.aload_n 0) 1), some (fl_ef (.getfield 7) 3 1 0 2 0 45), none], [none, some (fl_ea (.iload_n 1) 1 1), some (fl_e0 (.laload) 1), some (fl_ea (.goto 4) 3 23), none, none, fl_el (fl_e0 (.lconst 0) 1) [], some (fl_e0 (.lreturn) 1)]]]
/-- FaultLists$Pile.at(I)J -/
def fl_c106 : List (List (List (Option fl_E))) := [[[some (fl_e0 (.aload_n 0) 1), some (fl_ef (.getfield 18) 3 5 0 2 0 50), none, none, some (fl_ea (.iload_n 1) 1 1), fl_el (fl_ef (.invokevirtual 25) 3 105 2 1 33 656) [], none, none], [some (fl_e0 (.lreturn) 1)]]]
/-- FaultLists.valueOfSign(J)I -/
def fl_c107 : List (List (List (Option fl_E))) := [[[some (fl_e0 (.lload_n 0) 1), some (fl_ew (.ldc2_w 327) 3 0 0 0 0 663 0 48 []), none, none, some (fl_e0 (.lcmp) 1), some (fl_ea (.ifCond .ne 7) 3 12), none, none], [some (fl_e0 (.iconst 0) 1), some (fl_ea (.goto 28) 3 37), none, none, some (fl_e0 (.lload_n 0) 1), some (fl_ew (.ldc2_w 329) 3 0 0 0 0 664 0 49 []), none, none], [some (fl_e0 (.lcmp) 1), some (fl_ea (.ifCond .ne 7) 3 24), none, none, some (fl_ex1 (.iconst 1) 1 1), some (fl_ea (.goto 16) 3 37), none, none], [some (fl_e0 (.lload_n 0) 1), some (fl_ew (.ldc2_w 331) 3 0 0 0 0 665 0 117 []), none, none, some (fl_e0 (.lcmp) 1), some (fl_ea (.ifCond .ne 7) 3 36), none, none], [some (fl_ex1 (.iconst 2) 1 2), some (fl_ea (.goto 4) 3 37), none, none, some (fl_ex1 (.iconst (-1)) 1 (-1)), some (fl_e0 (.ireturn) 1)]]]
/-- FaultLists.badSign(II)I -/
def fl_c108 : List (List (List (Option fl_E))) := [[[some (fl_e0 (.iconst 0) 1), some (fl_ea (.istore_n 3) 1 3), some (fl_e0 (.iconst 0) 1), some (fl_ea (.istore 4) 2 4), none, fl_el (fl_ea (.iload 4) 2 4) [true, true, true, true, true], none, some (fl_e0 (.aload_n 0) 1)], [some (fl_ef (.getfield 14) 3 10 0 2 0 385), none, none, fl_el (fl_ef (.invokevirtual 87) 3 31 1 1 21 429) [true, true, true, true, true], none, none, some (fl_ea (.if_icmp .ge 49) 3 63), none], [none, some (fl_ea (.iload 4) 2 4), none, some (fl_ea (.iload_n 2) 1 2), some (fl_ea (.if_icmp .ge 19) 3 39), none, none, some (fl_e0 (.aload_n 0) 1)], [some (fl_ef (.getfield 14) 3 10 0 2 0 385), none, none, some (fl_ea (.iload 4) 2 4), none, fl_el (fl_ef (.invokevirtual 326) 3 106 2 1 37 652) [true, true, true, true, true], none, none], [fl_el (fl_ef (.invokestatic 333) 3 107 1 0 32 660) [true, true, true, true, true], none, none, some (fl_ex1 (.iconst (-1)) 1 (-1)), some (fl_ea (.if_icmp .ne 6) 3 42), none, none, fl_el (fl_ea (.iload 4) 2 4) [false, false, false, false, true]], [none, some (fl_e0 (.ireturn) 1), some (fl_ea (.iload_n 3) 1 3), some (fl_ex1 (.iconst 1) 1 1), some (fl_e0 (.iadd) 1), some (fl_ea (.iload_n 1) 1 1), some (fl_ea (.if_icmp .ne 7) 3 53), none], [none, some (fl_e0 (.iconst 0) 1), some (fl_ea (.goto 6) 3 56), none, none, some (fl_ea (.iload_n 3) 1 3), some (fl_ex1 (.iconst 1) 1 1), some (fl_e0 (.iadd) 1)], [some (fl_ea (.istore_n 3) 1 3), some (fl_ew (.iinc 4 1) 3 4 0 0 0 0 1 0 []), none, none, some (fl_ea (.goto (-55)) 3 5), none, none, some (fl_ea (.iload_n 3) 1 3)]], [[some (fl_ea (.ifCond .ne 7) 3 71), none, none, some (fl_ex1 (.iconst (-1)) 1 (-1)), some (fl_ea (.goto 10) 3 78), none, none, some (fl_e0 (.aload_n 0) 1)], [some (fl_ef (.getfield 14) 3 10 0 2 0 385), none, none, fl_el (fl_ef (.invokevirtual 87) 3 31 1 1 21 429) [], none, none, some (fl_e0 (.ireturn) 1)]]]
/-- FaultLists.patternAt(II)I -/
def fl_c109 : List (List (List (Option fl_E))) := [[[some (fl_e0 (.iconst 0) 1), some (fl_ea (.istore_n 3) 1 3), some (fl_e0 (.iconst 0) 1), some (fl_ea (.istore 4) 2 4), none, fl_el (fl_ea (.iload 4) 2 4) [true, true, true, true, true], none, some (fl_ea (.iload_n 2) 1 2)], [some (fl_ea (.if_icmp .ge 33) 3 41), none, none, some (fl_ea (.iload_n 3) 1 3), some (fl_e0 (.aload_n 0) 1), some (fl_ef (.getfield 14) 3 10 0 2 0 385), none, none], [some (fl_ea (.iload_n 1) 1 1), some (fl_ea (.iload 4) 2 4), none, some (fl_e0 (.iadd) 1), fl_el (fl_ef (.invokevirtual 326) 3 106 2 1 37 652) [true, true, true, false, true], none, none, fl_el (fl_ef (.invokestatic 333) 3 107 1 0 32 660) [true, true, true, false, true]], [none, none, some (fl_ex1 (.iconst 3) 1 3), some (fl_e0 (.iand) 1), some (fl_ex1 (.iconst 2) 1 2), some (fl_ea (.iload 4) 2 4), none, some (fl_e0 (.imul) 1)], [some (fl_e0 (.ishl) 1), some (fl_e0 (.ior) 1), some (fl_ea (.istore_n 3) 1 3), some (fl_ew (.iinc 4 1) 3 4 0 0 0 0 1 0 []), none, none, some (fl_ea (.goto (-33)) 3 5), none], [none, some (fl_ea (.iload_n 3) 1 3), some (fl_e0 (.ireturn) 1)]]]
/-- FaultLists$Net.allFaults()J -/
def fl_c110 : List (List (List (Option fl_E))) := [[[some (fl_e0 (.aload_n 0) 1), fl_el (fl_ef (.invokevirtual 63) 3 66 1 1 20 678) [true], none, none, some (fl_ex1 (.bipush 64) 2 64), none, some (fl_ea (.if_icmp .lt 9) 3 15), none], [none, some (fl_ew (.ldc2_w 67) 3 0 0 0 0 679 0 (-1) []), none, none, some (fl_ea (.goto 11) 3 23), none, none, some (fl_ew (.lconst 1) 1 0 0 0 0 0 0 1 [])], [some (fl_e0 (.aload_n 0) 1), fl_el (fl_ef (.invokevirtual 63) 3 66 1 1 20 678) [], none, none, some (fl_e0 (.lshl) 1), some (fl_ew (.lconst 1) 1 0 0 0 0 0 0 1 []), some (fl_e0 (.lsub) 1), some (fl_e0 (.lreturn) 1)]]]
/-- FaultLists$Net.pinFault(II)I -/
def fl_c111 : List (List (List (Option fl_E))) := [[[some (fl_ex1 (.iconst 2) 1 2), some (fl_e0 (.aload_n 0) 1), some (fl_ef (.getfield 39) 3 4 1 0 0 79), none, none, some (fl_ea (.iload_n 1) 1 1), some (fl_e0 (.iadd) 1), some (fl_e0 (.imul) 1)], [some (fl_ea (.iload_n 2) 1 2), some (fl_e0 (.iadd) 1), some (fl_e0 (.ireturn) 1)]]]
/-- FaultLists$Net.turns(I)Z -/
def fl_c112 : List (List (List (Option fl_E))) := [[[some (fl_e0 (.iload_n 0) 1), some (fl_ex1 (.iconst 1) 1 1), some (fl_ea (.if_icmp .eq 15) 3 17), none, none, some (fl_e0 (.iload_n 0) 1), some (fl_ex1 (.bipush 6) 2 6), none], [some (fl_ea (.if_icmp .eq 9) 3 17), none, none, some (fl_e0 (.iload_n 0) 1), some (fl_ex1 (.bipush 7) 2 7), none, some (fl_ea (.if_icmp .ne 7) 3 21), none], [none, fl_el (fl_ex1 (.iconst 1) 1 1) [], some (fl_ea (.goto 4) 3 22), none, none, some (fl_e0 (.iconst 0) 1), some (fl_ef (.ireturn) 1 0 0 3 0 0)]]]
/-- FaultLists$Side.work(LFaultLists$Net;IJLFaultLists$Cells;LFaultLists$Cells;)V -/
def fl_c113 : List (List (List (Option fl_E))) := [[[some (fl_ea (.aload_n 1) 1 1), some (fl_ef (.getfield 63) 3 4 5 2 0 104), none, none, some (fl_ea (.iload_n 2) 1 2), fl_el (fl_ef (.invokevirtual 45) 3 24 2 1 33 375) [true, true, true, true, false, true, true], none, none], [some (fl_ea (.istore 7) 2 7), none, some (fl_ea (.aload_n 1) 1 1), some (fl_ef (.getfield 77) 3 4 7 2 0 112), none, none, some (fl_ea (.iload_n 2) 1 2), fl_el (fl_ef (.invokevirtual 45) 3 24 2 1 33 375) [true, true, true, true, false, true, true, true]], [none, none, some (fl_ea (.istore 8) 2 8), none, some (fl_ea (.iload 8) 2 8), none, some (fl_ea (.aload_n 1) 1 1), some (fl_ef (.getfield 80) 3 4 6 2 0 108)], [none, none, some (fl_ea (.iload_n 2) 1 2), fl_el (fl_ef (.invokevirtual 45) 3 24 2 1 33 375) [true, true, true, true, false, true, true, true, true], none, none, some (fl_e0 (.iadd) 1), some (fl_ea (.istore 9) 2 9)], [none, some (fl_ew (.ldc2_w 53) 3 0 0 0 0 383 0 (-1) []), none, none, some (fl_ea (.lstore 10) 2 10), none, some (fl_e0 (.lconst 0) 1), some (fl_ea (.lstore 12) 2 12)], [none, some (fl_ew (.ldc2_w 53) 3 0 0 0 0 383 0 (-1) []), none, none, some (fl_ea (.lstore 14) 2 14), none, some (fl_e0 (.lconst 0) 1), some (fl_ea (.lstore 16) 2 16)], [none, some (fl_e0 (.lconst 0) 1), some (fl_ea (.lstore 18) 2 18), none, some (fl_ew (.ldc2_w 53) 3 0 0 0 0 383 0 (-1) []), none, none, some (fl_ea (.lstore 20) 2 20)], [none, some (fl_ea (.iload 8) 2 8), none, some (fl_ea (.istore 22) 2 22), none, fl_el (fl_ea (.iload 22) 2 22) [true, true, true, true, false, true, true, true, false, true, true, false, true, false, true, false, true, false, true, false, true, false, true], none, some (fl_ea (.iload 9) 2 9)]], [[none, some (fl_ea (.if_icmp .ge 133) 3 198), none, none, some (fl_ea (.aload_n 1) 1 1), some (fl_ef (.getfield 83) 3 4 9 2 0 121), none, none], [some (fl_ea (.iload 22) 2 22), none, fl_el (fl_ef (.invokevirtual 45) 3 24 2 1 33 375) [true, true, true, true, false, true, true, true, false, true, true, false, true, false, true, false, true, false, true, false, true, false, true], none, none, some (fl_ea (.istore 23) 2 23), none, some (fl_ea (.lload_n 3) 1 3)], [some (fl_ew (.lconst 1) 1 0 0 0 0 0 0 1 []), some (fl_ea (.aload_n 1) 1 1), some (fl_ea (.iload 22) 2 22), none, some (fl_e0 (.iconst 0) 1), fl_el (fl_ef (.invokevirtual 86) 3 111 3 1 52 694) [true, true, true, true, false, true, true, true, false, true, true, false, true, false, true, false, true, false, true, false, true, false, true, true], none, none], [some (fl_e0 (.lshl) 1), some (fl_e0 (.land) 1), some (fl_ea (.lstore 24) 2 24), none, some (fl_ea (.lload_n 3) 1 3), some (fl_ew (.lconst 1) 1 0 0 0 0 0 0 1 []), some (fl_ea (.aload_n 1) 1 1), some (fl_ea (.iload 22) 2 22)], [none, some (fl_ex1 (.iconst 1) 1 1), fl_el (fl_ef (.invokevirtual 86) 3 111 3 1 52 694) [true, true, true, true, false, true, true, true, false, true, true, false, true, false, true, false, true, false, true, false, true, false, true, true, true], none, none, some (fl_e0 (.lshl) 1), some (fl_e0 (.land) 1), some (fl_ea (.lstore 26) 2 26)], [none, some (fl_e0 (.aload_n 0) 1), some (fl_ef (.getfield 14) 3 9 0 2 0 195), none, none, some (fl_ea (.iload 23) 2 23), none, fl_el (fl_ef (.invokevirtual 59) 3 105 2 1 33 689) [true, true, true, true, false, true, true, true, false, true, true, false, true, false, true, false, true, false, true, false, true, false, true, true, true, false, true]], [none, none, some (fl_ea (.lload 24) 2 24), none, some (fl_ew (.ldc2_w 53) 3 0 0 0 0 383 0 (-1) []), none, none, some (fl_e0 (.lxor) 1)], [some (fl_e0 (.land) 1), some (fl_ea (.lload 26) 2 26), none, some (fl_e0 (.lor) 1), some (fl_ea (.lstore 28) 2 28), none, some (fl_e0 (.aload_n 0) 1), some (fl_ef (.getfield 20) 3 9 1 2 0 198)]], [[none, none, some (fl_ea (.iload 23) 2 23), none, fl_el (fl_ef (.invokevirtual 59) 3 105 2 1 33 689) [true, true, true, true, false, true, true, true, false, true, true, false, true, false, true, false, true, false, true, false, true, false, true, false, true, false, true, false, true], none, none, some (fl_ea (.lload 26) 2 26)], [none, some (fl_ew (.ldc2_w 53) 3 0 0 0 0 383 0 (-1) []), none, none, some (fl_e0 (.lxor) 1), some (fl_e0 (.land) 1), some (fl_ea (.lload 24) 2 24), none], [some (fl_e0 (.lor) 1), some (fl_ea (.lstore 30) 2 30), none, some (fl_ea (.lload 10) 2 10), none, some (fl_ea (.lload 28) 2 28), none, some (fl_e0 (.land) 1)], [some (fl_ea (.lstore 10) 2 10), none, some (fl_ea (.lload 12) 2 12), none, some (fl_ea (.lload 28) 2 28), none, some (fl_e0 (.lor) 1), some (fl_ea (.lstore 12) 2 12)], [none, some (fl_ea (.lload 14) 2 14), none, some (fl_ea (.lload 30) 2 30), none, some (fl_e0 (.land) 1), some (fl_ea (.lstore 14) 2 14), none], [some (fl_ea (.lload 16) 2 16), none, some (fl_ea (.lload 30) 2 30), none, some (fl_e0 (.lor) 1), some (fl_ea (.lstore 16) 2 16), none, some (fl_ea (.lload 18) 2 18)], [none, some (fl_ea (.lload 28) 2 28), none, some (fl_e0 (.lxor) 1), some (fl_ea (.lstore 18) 2 18), none, some (fl_ea (.lload 20) 2 20), none], [some (fl_ea (.lload 28) 2 28), none, some (fl_ea (.lload 30) 2 30), none, some (fl_e0 (.lor) 1), some (fl_e0 (.land) 1), some (fl_ea (.lstore 20) 2 20), none]], [[some (fl_ew (.iinc 22 1) 3 22 0 0 0 0 1 0 []), none, none, some (fl_ea (.goto (-134)) 3 61), none, none, some (fl_ea (.iload 7) 2 7), none], [some (fl_ex1 (.iconst 4) 1 4), some (fl_ea (.if_icmp .eq 10) 3 211), none, none, some (fl_ea (.iload 7) 2 7), none, some (fl_ex1 (.bipush 7) 2 7), none], [some (fl_ea (.if_icmp .ne 7) 3 215), none, none, fl_el (fl_ex1 (.iconst 1) 1 1) [false, false, true, false, false, true, true, true, false, false, true, false, true, false, true, false, true, false, true, false, true], some (fl_ea (.goto 4) 3 216), none, none, some (fl_e0 (.iconst 0) 1)], [fl_el (fl_ea (.istore 22) 2 22) [false, false, true, false, false, true, true, true, false, false, true, false, true, false, true, false, true, false, true, false, true], none, some (fl_ea (.iload 7) 2 7), none, some (fl_ex1 (.iconst 5) 1 5), some (fl_ea (.if_icmp .ne 11) 3 232), none, none], [some (fl_ea (.lload 18) 2 18), none, some (fl_ea (.lload 20) 2 20), none, some (fl_e0 (.land) 1), some (fl_ea (.goto 15) 3 244), none, none], [some (fl_ea (.iload 22) 2 22), none, some (fl_ea (.ifCond .eq 8) 3 242), none, none, some (fl_ea (.lload 12) 2 12), none, some (fl_ea (.goto 5) 3 244)], [none, none, some (fl_ea (.lload 10) 2 10), none, fl_el (fl_ea (.lstore 23) 2 23) [false, false, true, false, false, true, true, true, false, false, false, false, false, false, true, false, true, false, true, false, true, false, true], none, some (fl_ea (.iload 7) 2 7), none], [some (fl_ex1 (.iconst 5) 1 5), some (fl_ea (.if_icmp .ne 15) 3 264), none, none, some (fl_ea (.lload 18) 2 18), none, some (fl_ew (.ldc2_w 53) 3 0 0 0 0 383 0 (-1) []), none]], [[none, some (fl_e0 (.lxor) 1), some (fl_ea (.lload 20) 2 20), none, some (fl_e0 (.land) 1), some (fl_ea (.goto 15) 3 276), none, none], [some (fl_ea (.iload 22) 2 22), none, some (fl_ea (.ifCond .eq 8) 3 274), none, none, some (fl_ea (.lload 14) 2 14), none, some (fl_ea (.goto 5) 3 276)], [none, none, some (fl_ea (.lload 16) 2 16), none, fl_el (fl_ea (.lstore 25) 2 25) [false, false, true, false, false, true, true, true, false, false, false, false, false, false, false, false, false, false, false, false, false, false, false, true], none, some (fl_ea (.iload 7) 2 7), none], [fl_el (fl_ef (.invokestatic 90) 3 112 1 0 16 698) [false, false, true, false, false, true, true, false, false, false, false, false, false, false, false, false, false, false, false, false, false, false, false, true, false, true], none, none, some (fl_ea (.istore 27) 2 27), none, some (fl_ea (.aload 5) 2 5), none, some (fl_ea (.iload_n 2) 1 2)], [some (fl_ea (.iload 27) 2 27), none, some (fl_ea (.ifCond .eq 8) 3 298), none, none, some (fl_ea (.lload 25) 2 25), none, some (fl_ea (.goto 5) 3 300)], [none, none, some (fl_ea (.lload 23) 2 23), none, fl_el (fl_ef (.invokevirtual 55) 3 20 3 1 65 384) [false, false, true, false, false, false, true, false, false, false, false, false, false, false, false, false, false, false, false, false, false, false, false, true, false, true, false, true], none, none, some (fl_ea (.aload 6) 2 6)], [none, some (fl_ea (.iload_n 2) 1 2), some (fl_ea (.iload 27) 2 27), none, some (fl_ea (.ifCond .eq 8) 3 316), none, none, some (fl_ea (.lload 23) 2 23)], [none, some (fl_ea (.goto 5) 3 318), none, none, some (fl_ea (.lload 25) 2 25), none, fl_el (fl_ef (.invokevirtual 55) 3 20 3 1 65 384) [], none]], [[none, some (fl_e0 (.return_) 1)]]]
/-- FaultLists$Side.stick(IJ)V -/
def fl_c114 : List (List (List (Option fl_E))) := [[[some (fl_ea (.lload_n 2) 1 2), some (fl_ew (.lconst 1) 1 0 0 0 0 0 0 1 []), some (fl_ex1 (.iconst 2) 1 2), some (fl_ea (.iload_n 1) 1 1), some (fl_e0 (.imul) 1), some (fl_e0 (.lshl) 1), some (fl_e0 (.land) 1), some (fl_ea (.lstore 4) 2 4)], [none, some (fl_ea (.lload_n 2) 1 2), some (fl_ew (.ldc2_w 93) 3 0 0 0 0 705 0 2 []), none, none, some (fl_ex1 (.iconst 2) 1 2), some (fl_ea (.iload_n 1) 1 1), some (fl_e0 (.imul) 1)], [some (fl_e0 (.lshl) 1), some (fl_e0 (.land) 1), some (fl_ea (.lstore 6) 2 6), none, some (fl_e0 (.aload_n 0) 1), some (fl_ef (.getfield 14) 3 9 0 2 0 195), none, none], [some (fl_ea (.iload_n 1) 1 1), some (fl_e0 (.aload_n 0) 1), some (fl_ef (.getfield 14) 3 9 0 2 0 195), none, none, some (fl_ea (.iload_n 1) 1 1), fl_el (fl_ef (.invokevirtual 59) 3 105 2 1 33 689) [true, true, false, false, true, false, true], none], [none, some (fl_ea (.lload 4) 2 4), none, some (fl_ew (.ldc2_w 53) 3 0 0 0 0 383 0 (-1) []), none, none, some (fl_e0 (.lxor) 1), some (fl_e0 (.land) 1)], [some (fl_ea (.lload 6) 2 6), none, some (fl_e0 (.lor) 1), fl_el (fl_ef (.invokevirtual 55) 3 20 3 1 65 384) [true, true, false, false, true, false, true], none, none, some (fl_e0 (.aload_n 0) 1), some (fl_ef (.getfield 20) 3 9 1 2 0 198)], [none, none, some (fl_ea (.iload_n 1) 1 1), some (fl_e0 (.aload_n 0) 1), some (fl_ef (.getfield 20) 3 9 1 2 0 198), none, none, some (fl_ea (.iload_n 1) 1 1)], [fl_el (fl_ef (.invokevirtual 59) 3 105 2 1 33 689) [false, false, false, false, true, false, true], none, none, some (fl_ea (.lload 6) 2 6), none, some (fl_ew (.ldc2_w 53) 3 0 0 0 0 383 0 (-1) []), none, none]], [[some (fl_e0 (.lxor) 1), some (fl_e0 (.land) 1), some (fl_ea (.lload 4) 2 4), none, some (fl_e0 (.lor) 1), fl_el (fl_ef (.invokevirtual 55) 3 20 3 1 65 384) [], none, none], [some (fl_e0 (.return_) 1)]]]
/-- FaultLists$Side.tick(LFaultLists$Net;IJ)V -/
def fl_c115 : List (List (List (Option fl_E))) := [[[some (fl_e0 (.iconst 0) 1), some (fl_ea (.istore 5) 2 5), none, fl_el (fl_ea (.iload 5) 2 5) [true, true, true, true, false, true], none, some (fl_ea (.aload_n 1) 1 1), some (fl_ef (.getfield 39) 3 4 1 0 0 81), none], [none, some (fl_ea (.if_icmp .ge 150) 3 159), none, none, some (fl_ea (.aload_n 1) 1 1), some (fl_ef (.getfield 63) 3 4 5 2 0 104), none, none], [some (fl_ea (.iload 5) 2 5), none, fl_el (fl_ef (.invokevirtual 45) 3 24 2 1 33 375) [true, true, true, true, false, true], none, none, some (fl_ea (.istore 6) 2 6), none, some (fl_ea (.iload 6) 2 6)], [none, some (fl_ea (.ifCond .ne 59) 3 84), none, none, some (fl_ea (.iload_n 2) 1 2), some (fl_ex1 (.iconst 2) 1 2), some (fl_ea (.iload 5) 2 5), none], [some (fl_e0 (.imul) 1), some (fl_e0 (.ishr) 1), some (fl_ex1 (.iconst 3) 1 3), some (fl_e0 (.iand) 1), some (fl_ea (.istore 7) 2 7), none, some (fl_e0 (.aload_n 0) 1), some (fl_ef (.getfield 14) 3 9 0 2 0 195)], [none, none, some (fl_ea (.iload 5) 2 5), none, some (fl_ea (.iload 7) 2 7), none, some (fl_ex1 (.iconst 1) 1 1), some (fl_ea (.if_icmp .ne 9) 3 56)], [none, none, some (fl_ew (.ldc2_w 53) 3 0 0 0 0 383 0 (-1) []), none, none, some (fl_ea (.goto 4) 3 57), none, none], [some (fl_e0 (.lconst 0) 1), fl_el (fl_ef (.invokevirtual 55) 3 20 3 1 65 384) [true, true, true, true, false, true, false, true], none, none, some (fl_e0 (.aload_n 0) 1), some (fl_ef (.getfield 20) 3 9 1 2 0 198), none, none]], [[some (fl_ea (.iload 5) 2 5), none, some (fl_ea (.iload 7) 2 7), none, some (fl_ea (.ifCond .ne 9) 3 77), none, none, some (fl_ew (.ldc2_w 53) 3 0 0 0 0 383 0 (-1) [])], [none, none, some (fl_ea (.goto 4) 3 78), none, none, some (fl_e0 (.lconst 0) 1), fl_el (fl_ef (.invokevirtual 55) 3 20 3 1 65 384) [true, true, true, true, false, true], none], [none, some (fl_ea (.goto 65) 3 146), none, none, some (fl_ea (.iload 6) 2 6), none, some (fl_ex1 (.bipush 8) 2 8), none], [some (fl_ea (.if_icmp .ne 42) 3 130), none, none, some (fl_e0 (.aload_n 0) 1), some (fl_ef (.getfield 14) 3 9 0 2 0 195), none, none, some (fl_ea (.iload 5) 2 5)], [none, some (fl_e0 (.aload_n 0) 1), some (fl_ef (.getfield 23) 3 9 2 2 0 201), none, none, some (fl_ea (.iload 5) 2 5), none, fl_el (fl_ef (.invokevirtual 59) 3 105 2 1 33 689) [true, true, true, true, false, true]], [none, none, fl_el (fl_ef (.invokevirtual 55) 3 20 3 1 65 384) [true, true, true, true, false, true], none, none, some (fl_e0 (.aload_n 0) 1), some (fl_ef (.getfield 20) 3 9 1 2 0 198), none], [none, some (fl_ea (.iload 5) 2 5), none, some (fl_e0 (.aload_n 0) 1), some (fl_ef (.getfield 26) 3 9 3 2 0 204), none, none, some (fl_ea (.iload 5) 2 5)], [none, fl_el (fl_ef (.invokevirtual 59) 3 105 2 1 33 689) [true, true, true, true, false, true], none, none, fl_el (fl_ef (.invokevirtual 55) 3 20 3 1 65 384) [true, true, true, true, false, true], none, none, some (fl_ea (.goto 19) 3 146)]], [[none, none, some (fl_e0 (.aload_n 0) 1), some (fl_ea (.aload_n 1) 1 1), some (fl_ea (.iload 5) 2 5), none, some (fl_ea (.lload_n 3) 1 3), some (fl_e0 (.aload_n 0) 1)], [some (fl_ef (.getfield 14) 3 9 0 2 0 195), none, none, some (fl_e0 (.aload_n 0) 1), some (fl_ef (.getfield 20) 3 9 1 2 0 198), none, none, fl_el (fl_ef (.invokevirtual 66) 3 113 6 1 521 690) [true, true, true, true, false, true]], [none, none, fl_el (fl_e0 (.aload_n 0) 1) [true, true, true, true, false, true], some (fl_ea (.iload 5) 2 5), none, some (fl_ea (.lload_n 3) 1 3), fl_el (fl_ef (.invokevirtual 70) 3 114 3 1 137 701) [true, true, true, true, false, true], none], [none, some (fl_ew (.iinc 5 1) 3 5 0 0 0 0 1 0 []), none, none, some (fl_ea (.goto (-153)) 3 3), none, none, some (fl_ea (.aload_n 1) 1 1)], [some (fl_ef (.getfield 33) 3 4 0 0 0 75), none, none, some (fl_ea (.istore 5) 2 5), none, fl_el (fl_ea (.iload 5) 2 5) [true, true, false, true, false, true], none, some (fl_ea (.aload_n 1) 1 1)], [some (fl_ef (.getfield 39) 3 4 1 0 0 81), none, none, some (fl_ea (.if_icmp .ge 34) 3 205), none, none, some (fl_ea (.aload_n 1) 1 1), some (fl_ea (.iload 5) 2 5)], [none, fl_el (fl_ef (.invokevirtual 73) 3 65 2 1 36 706) [true, true, false, true, false, true], none, none, some (fl_ea (.ifCond .eq 19) 3 199), none, none, some (fl_e0 (.aload_n 0) 1)], [some (fl_ea (.aload_n 1) 1 1), some (fl_ea (.iload 5) 2 5), none, some (fl_ea (.lload_n 3) 1 3), some (fl_e0 (.aload_n 0) 1), some (fl_ef (.getfield 23) 3 9 2 2 0 201), none, none]], [[some (fl_e0 (.aload_n 0) 1), some (fl_ef (.getfield 26) 3 9 3 2 0 204), none, none, fl_el (fl_ef (.invokevirtual 66) 3 113 6 1 521 690) [true, true, false, true, false, true], none, none, fl_el (fl_ew (.iinc 5 1) 3 5 0 0 0 0 1 0 []) [true, true, false, true, false, true]], [none, none, some (fl_ea (.goto (-37)) 3 165), none, none, some (fl_e0 (.return_) 1)]]]
/-- FaultLists$Bench.tick(LFaultLists$Net;IJ)V -/
def fl_c116 : List (List (List (Option fl_E))) := [[[some (fl_e0 (.aload_n 0) 1), some (fl_ef (.getfield 10) 3 0 0 2 0 216), none, none, some (fl_ea (.aload_n 1) 1 1), some (fl_ea (.iload_n 2) 1 2), some (fl_e0 (.lconst 0) 1), fl_el (fl_ef (.invokevirtual 27) 3 115 4 1 137 685) [true, true, true, true]], [none, none, some (fl_e0 (.aload_n 0) 1), some (fl_ef (.getfield 16) 3 0 1 2 0 219), none, none, some (fl_ea (.aload_n 1) 1 1), some (fl_ea (.iload_n 2) 1 2)], [some (fl_ea (.lload_n 3) 1 3), fl_el (fl_ef (.invokevirtual 27) 3 115 4 1 137 685) [], none, none, some (fl_e0 (.return_) 1)]]]
/-- FaultLists$Bench.otherKnown(LFaultLists$Side;LFaultLists$Side;I)J -/
def fl_c117 : List (List (List (Option fl_E))) := [[[some (fl_e0 (.aload_n 0) 1), some (fl_ef (.getfield 31) 3 9 0 2 0 196), none, none, some (fl_ea (.iload_n 2) 1 2), fl_el (fl_ef (.invokevirtual 35) 3 105 2 1 33 719) [true, true, true], none, none], [some (fl_ea (.aload_n 1) 1 1), some (fl_ef (.getfield 41) 3 9 1 2 0 199), none, none, some (fl_ea (.iload_n 2) 1 2), fl_el (fl_ef (.invokevirtual 35) 3 105 2 1 33 719) [true, true, true], none, none], [some (fl_e0 (.land) 1), some (fl_e0 (.aload_n 0) 1), some (fl_ef (.getfield 41) 3 9 1 2 0 199), none, none, some (fl_ea (.iload_n 2) 1 2), fl_el (fl_ef (.invokevirtual 35) 3 105 2 1 33 719) [false, true, true], none], [none, some (fl_ea (.aload_n 1) 1 1), some (fl_ef (.getfield 31) 3 9 0 2 0 196), none, none, some (fl_ea (.iload_n 2) 1 2), fl_el (fl_ef (.invokevirtual 35) 3 105 2 1 33 719) [], none], [none, some (fl_e0 (.land) 1), some (fl_e0 (.lor) 1), some (fl_e0 (.lreturn) 1)]]]
/-- FaultLists$Bench.listAt(I)J -/
def fl_c118 : List (List (List (Option fl_E))) := [[[some (fl_e0 (.aload_n 0) 1), some (fl_ef (.getfield 16) 3 0 1 2 0 219), none, none, some (fl_e0 (.aload_n 0) 1), some (fl_ef (.getfield 10) 3 0 0 2 0 216), none, none], [some (fl_ea (.iload_n 1) 1 1), fl_el (fl_ef (.invokestatic 44) 3 117 3 0 48 716) [], none, none, some (fl_e0 (.lreturn) 1)]]]
/-- FaultLists$Bench.shown(LFaultLists$Net;)J -/
def fl_c119 : List (List (List (Option fl_E))) := [[[some (fl_e0 (.lconst 0) 1), some (fl_ea (.lstore_n 2) 1 2), some (fl_e0 (.iconst 0) 1), some (fl_ea (.istore 4) 2 4), none, fl_el (fl_ea (.iload 4) 2 4) [true, true, true, false, true], none, some (fl_ea (.aload_n 1) 1 1)], [some (fl_ef (.getfield 54) 3 4 4 0 0 97), none, none, some (fl_ea (.if_icmp .ge 25) 3 36), none, none, some (fl_ea (.lload_n 2) 1 2), some (fl_e0 (.aload_n 0) 1)], [some (fl_ea (.aload_n 1) 1 1), some (fl_ef (.getfield 60) 3 4 10 2 0 126), none, none, some (fl_ea (.iload 4) 2 4), none, fl_el (fl_ef (.invokevirtual 63) 3 24 2 1 33 711) [true, true, false, false, true], none], [none, fl_el (fl_ef (.invokevirtual 67) 3 118 2 1 32 712) [true, true, false, false, true], none, none, some (fl_e0 (.lor) 1), some (fl_ea (.lstore_n 2) 1 2), some (fl_ew (.iinc 4 1) 3 4 0 0 0 0 1 0 []), none], [none, some (fl_ea (.goto (-28)) 3 5), none, none, some (fl_ea (.lload_n 2) 1 2), some (fl_e0 (.lreturn) 1)]]]
/-- FaultLists.hasBit(JI)Z -/
def fl_c120 : List (List (List (Option fl_E))) := [[[some (fl_e0 (.lload_n 0) 1), some (fl_ea (.iload_n 2) 1 2), some (fl_e0 (.lushr) 1), some (fl_ew (.lconst 1) 1 0 0 0 0 0 0 1 []), some (fl_e0 (.land) 1), some (fl_e0 (.lconst 0) 1), some (fl_e0 (.lcmp) 1), some (fl_ea (.ifCond .eq 7) 3 14)], [none, none, some (fl_ex1 (.iconst 1) 1 1), some (fl_ea (.goto 4) 3 15), none, none, some (fl_e0 (.iconst 0) 1), some (fl_ef (.ireturn) 1 0 0 3 0 0)]]]
/-- FaultLists$Run.outputsShowing(I)J -/
def fl_c121 : List (List (List (Option fl_E))) := [[[some (fl_e0 (.lconst 0) 1), some (fl_ea (.lstore_n 2) 1 2), some (fl_e0 (.iconst 0) 1), some (fl_ea (.istore 4) 2 4), none, fl_el (fl_ea (.iload 4) 2 4) [true, true, true, false, true], none, some (fl_e0 (.aload_n 0) 1)], [some (fl_ef (.getfield 12) 3 7 0 2 0 229), none, none, some (fl_ef (.getfield 114) 3 4 4 0 0 95), none, none, some (fl_ea (.if_icmp .ge 50) 3 64), none], [none, some (fl_e0 (.aload_n 0) 1), some (fl_ef (.getfield 12) 3 7 0 2 0 229), none, none, some (fl_ef (.getfield 117) 3 4 10 2 0 124), none, none], [some (fl_ea (.iload 4) 2 4), none, fl_el (fl_ef (.invokevirtual 120) 3 24 2 1 33 732) [true, true, true, false, true], none, none, some (fl_ea (.istore 5) 2 5), none, some (fl_ea (.lload_n 2) 1 2)], [some (fl_e0 (.aload_n 0) 1), some (fl_ef (.getfield 21) 3 7 1 2 0 231), none, none, some (fl_ea (.iload 5) 2 5), none, fl_el (fl_ef (.invokevirtual 124) 3 118 2 1 32 733) [true, true, false, false, true, true], none], [none, some (fl_ea (.iload_n 1) 1 1), fl_el (fl_ef (.invokestatic 106) 3 120 2 10 48 724) [true, true, false, false, true, true], none, none, some (fl_ea (.ifCond .eq 10) 3 55), none, none], [some (fl_ew (.lconst 1) 1 0 0 0 0 0 0 1 []), some (fl_ea (.iload 5) 2 5), none, some (fl_e0 (.lshl) 1), some (fl_ea (.goto 4) 3 56), none, none, some (fl_e0 (.lconst 0) 1)], [some (fl_e0 (.lor) 1), some (fl_ea (.lstore_n 2) 1 2), some (fl_ew (.iinc 4 1) 3 4 0 0 0 0 1 0 []), none, none, some (fl_ea (.goto (-56)) 3 5), none, none]], [[some (fl_ea (.lload_n 2) 1 2), some (fl_e0 (.lreturn) 1)]]]
/-- FaultLists$Run.note(J)V -/
def fl_c122 : List (List (List (Option fl_E))) := [[[some (fl_e0 (.iconst 0) 1), some (fl_ea (.istore_n 3) 1 3), fl_el (fl_ea (.iload_n 3) 1 3) [true, true, false, true], some (fl_ex1 (.bipush 64) 2 64), none, some (fl_ea (.if_icmp .ge 43) 3 48), none, none], [some (fl_ea (.lload_n 1) 1 1), some (fl_ea (.iload_n 3) 1 3), fl_el (fl_ef (.invokestatic 106) 3 120 2 10 48 724) [true, true, false, true], none, none, some (fl_ea (.ifCond .eq 29) 3 42), none, none], [some (fl_e0 (.aload_n 0) 1), some (fl_ef (.getfield 34) 3 7 8 2 0 245), none, none, some (fl_ea (.iload_n 3) 1 3), some (fl_e0 (.aload_n 0) 1), some (fl_ef (.getfield 50) 3 7 3 0 0 235), none], [none, some (fl_e0 (.i2l) 1), fl_el (fl_ef (.invokevirtual 102) 3 20 3 1 65 727) [true, true, false, true], none, none, some (fl_e0 (.aload_n 0) 1), some (fl_ef (.getfield 37) 3 7 9 2 0 247), none], [none, some (fl_ea (.iload_n 3) 1 3), some (fl_e0 (.aload_n 0) 1), some (fl_ea (.iload_n 3) 1 3), fl_el (fl_ef (.invokevirtual 110) 3 121 2 1 103 728) [true, true, false, true], none, none, fl_el (fl_ef (.invokevirtual 102) 3 20 3 1 65 727) [true, true, false, true]], [none, none, fl_el (fl_ew (.iinc 3 1) 3 3 0 0 0 0 1 0 []) [true, true, false, true], none, none, some (fl_ea (.goto (-43)) 3 2), none, none], [some (fl_e0 (.aload_n 0) 1), some (fl_e0 (.dup) 1), some (fl_ef (.getfield 58) 3 7 5 1 0 239), none, none, some (fl_ea (.lload_n 1) 1 1), some (fl_e0 (.lor) 1), some (fl_ef (.putfield 58) 3 7 5 1 0 239)], [none, none, some (fl_e0 (.return_) 1)]]]
/-- FaultLists$Side.holdAs(LFaultLists$Side;J)V -/
def fl_c123 : List (List (List (Option fl_E))) := [[[some (fl_e0 (.iconst 0) 1), some (fl_ea (.istore 4) 2 4), none, fl_el (fl_ea (.iload 4) 2 4) [true, true, true, false, true], none, some (fl_ex1 (.bipush 12) 2 12), none, some (fl_ea (.if_icmp .ge 81) 3 88)], [none, none, some (fl_e0 (.aload_n 0) 1), some (fl_ef (.getfield 23) 3 9 2 2 0 201), none, none, some (fl_ea (.iload 4) 2 4), none], [some (fl_e0 (.aload_n 0) 1), some (fl_ef (.getfield 23) 3 9 2 2 0 201), none, none, some (fl_ea (.iload 4) 2 4), none, fl_el (fl_ef (.invokevirtual 59) 3 105 2 1 33 689) [true, true, true, false, true], none], [none, some (fl_ea (.lload_n 2) 1 2), some (fl_ew (.ldc2_w 53) 3 0 0 0 0 383 0 (-1) []), none, none, some (fl_e0 (.lxor) 1), some (fl_e0 (.land) 1), some (fl_ea (.aload_n 1) 1 1)], [some (fl_ef (.getfield 23) 3 9 2 2 0 201), none, none, some (fl_ea (.iload 4) 2 4), none, fl_el (fl_ef (.invokevirtual 59) 3 105 2 1 33 689) [true, true, true, false, true], none, none], [some (fl_ea (.lload_n 2) 1 2), some (fl_e0 (.land) 1), some (fl_e0 (.lor) 1), fl_el (fl_ef (.invokevirtual 55) 3 20 3 1 65 384) [true, true, true, false, true], none, none, some (fl_e0 (.aload_n 0) 1), some (fl_ef (.getfield 26) 3 9 3 2 0 204)], [none, none, some (fl_ea (.iload 4) 2 4), none, some (fl_e0 (.aload_n 0) 1), some (fl_ef (.getfield 26) 3 9 3 2 0 204), none, none], [some (fl_ea (.iload 4) 2 4), none, fl_el (fl_ef (.invokevirtual 59) 3 105 2 1 33 689) [true, true, true, false, true], none, none, some (fl_ea (.lload_n 2) 1 2), some (fl_ew (.ldc2_w 53) 3 0 0 0 0 383 0 (-1) []), none]], [[none, some (fl_e0 (.lxor) 1), some (fl_e0 (.land) 1), some (fl_ea (.aload_n 1) 1 1), some (fl_ef (.getfield 26) 3 9 3 2 0 204), none, none, some (fl_ea (.iload 4) 2 4)], [none, fl_el (fl_ef (.invokevirtual 59) 3 105 2 1 33 689) [true, true, true, false, true], none, none, some (fl_ea (.lload_n 2) 1 2), some (fl_e0 (.land) 1), some (fl_e0 (.lor) 1), fl_el (fl_ef (.invokevirtual 55) 3 20 3 1 65 384) [true, true, true, false, true]], [none, none, some (fl_ew (.iinc 4 1) 3 4 0 0 0 0 1 0 []), none, none, some (fl_ea (.goto (-82)) 3 3), none, none], [some (fl_e0 (.return_) 1)]]]
/-- FaultLists$Run.tick(I)V -/
def fl_c124 : List (List (List (Option fl_E))) := [[[some (fl_e0 (.aload_n 0) 1), some (fl_ef (.getfield 21) 3 7 1 2 0 231), none, none, some (fl_e0 (.aload_n 0) 1), some (fl_ef (.getfield 12) 3 7 0 2 0 229), none, none], [some (fl_ea (.iload_n 1) 1 1), some (fl_e0 (.aload_n 0) 1), some (fl_ef (.getfield 12) 3 7 0 2 0 229), none, none, fl_el (fl_ef (.invokevirtual 71) 3 110 1 1 20 674) [true, true], none, none], [some (fl_e0 (.aload_n 0) 1), some (fl_ef (.getfield 62) 3 7 6 1 0 241), none, none, some (fl_ew (.ldc2_w 75) 3 0 0 0 0 680 0 (-1) []), none, none, some (fl_e0 (.lxor) 1)], [some (fl_e0 (.land) 1), fl_el (fl_ef (.invokevirtual 77) 3 116 4 1 80 681) [true, true], none, none, some (fl_e0 (.aload_n 0) 1), some (fl_ef (.getfield 21) 3 7 1 2 0 231), none, none], [some (fl_e0 (.aload_n 0) 1), some (fl_ef (.getfield 12) 3 7 0 2 0 229), none, none, fl_el (fl_ef (.invokevirtual 81) 3 119 2 1 80 707) [true, true], none, none, some (fl_ea (.lstore_n 2) 1 2)], [some (fl_e0 (.aload_n 0) 1), some (fl_ea (.lload_n 2) 1 2), some (fl_e0 (.aload_n 0) 1), some (fl_ef (.getfield 58) 3 7 5 1 0 239), none, none, some (fl_ew (.ldc2_w 75) 3 0 0 0 0 680 0 (-1) []), none], [none, some (fl_e0 (.lxor) 1), some (fl_e0 (.land) 1), fl_el (fl_ef (.invokevirtual 85) 3 122 2 1 71 720) [true, true, true], none, none, some (fl_e0 (.aload_n 0) 1), some (fl_ef (.getfield 54) 3 7 4 3 0 237)], [none, none, some (fl_ea (.ifCond .eq 31) 3 89), none, none, some (fl_e0 (.aload_n 0) 1), some (fl_e0 (.dup) 1), some (fl_ef (.getfield 62) 3 7 6 1 0 241)]], [[none, none, some (fl_ea (.lload_n 2) 1 2), some (fl_e0 (.lor) 1), some (fl_ef (.putfield 62) 3 7 6 1 0 241), none, none, fl_el (fl_e0 (.aload_n 0) 1) [true, true, true]], [some (fl_ef (.getfield 21) 3 7 1 2 0 231), none, none, some (fl_ef (.getfield 89) 3 0 1 2 0 220), none, none, some (fl_e0 (.aload_n 0) 1), some (fl_ef (.getfield 21) 3 7 1 2 0 231)], [none, none, some (fl_ef (.getfield 93) 3 0 0 2 0 217), none, none, some (fl_ea (.lload_n 2) 1 2), fl_el (fl_ef (.invokevirtual 96) 3 123 3 1 89 734) [true, true], none], [none, fl_el (fl_e0 (.aload_n 0) 1) [true, true], some (fl_ef (.getfield 30) 3 7 2 2 0 233), none, none, some (fl_e0 (.aload_n 0) 1), some (fl_ef (.getfield 50) 3 7 3 0 0 235), none], [none, some (fl_ea (.iload_n 1) 1 1), some (fl_e0 (.i2l) 1), fl_el (fl_ef (.invokevirtual 102) 3 20 3 1 65 727) [true], none, none, some (fl_e0 (.aload_n 0) 1), some (fl_e0 (.dup) 1)], [some (fl_ef (.getfield 50) 3 7 3 0 0 235), none, none, some (fl_ex1 (.iconst 1) 1 1), some (fl_e0 (.iadd) 1), some (fl_ef (.putfield 50) 3 7 3 0 0 235), none, none], [some (fl_e0 (.return_) 1)]]]
/-- FaultLists.tell(J)V -/
def fl_c125 : List (List (List (Option fl_E))) := [[[some (fl_e0 (.aload_n 0) 1), some (fl_ef (.getfield 18) 3 10 1 2 0 386), none, none, fl_el (fl_ef (.invokevirtual 103) 3 40 1 1 21 625) [true, true], none, none, some (fl_e0 (.aload_n 0) 1)], [some (fl_ef (.getfield 18) 3 10 1 2 0 386), none, none, some (fl_ea (.lload_n 1) 1 1), fl_el (fl_ef (.invokevirtual 91) 3 32 2 1 53 433) [], none, none, some (fl_e0 (.return_) 1)]]]
/-- java/lang/Long.bitCount(J)I -/
def fl_c126 : List (List (List (Option fl_E))) := [[[some (fl_e0 (.lload_n 0) 1), some (fl_e0 (.lload_n 0) 1), some (fl_ex1 (.iconst 1) 1 1), some (fl_e0 (.lushr) 1), some (fl_ew (.ldc2_w 314) 3 0 0 0 0 746 0 6148914691236517205 []), none, none, some (fl_e0 (.land) 1)], [some (fl_e0 (.lsub) 1), some (fl_e0 (.lstore_n 0) 1), some (fl_e0 (.lload_n 0) 1), some (fl_ew (.ldc2_w 316) 3 0 0 0 0 747 0 3689348814741910323 []), none, none, some (fl_e0 (.land) 1), some (fl_e0 (.lload_n 0) 1)], [some (fl_ex1 (.iconst 2) 1 2), some (fl_e0 (.lushr) 1), some (fl_ew (.ldc2_w 316) 3 0 0 0 0 747 0 3689348814741910323 []), none, none, some (fl_e0 (.land) 1), some (fl_e0 (.ladd) 1), some (fl_e0 (.lstore_n 0) 1)], [some (fl_e0 (.lload_n 0) 1), some (fl_e0 (.lload_n 0) 1), some (fl_ex1 (.iconst 4) 1 4), some (fl_e0 (.lushr) 1), some (fl_e0 (.ladd) 1), some (fl_ew (.ldc2_w 318) 3 0 0 0 0 748 0 1085102592571150095 []), none, none], [some (fl_e0 (.land) 1), some (fl_e0 (.lstore_n 0) 1), some (fl_e0 (.lload_n 0) 1), some (fl_e0 (.lload_n 0) 1), some (fl_ex1 (.bipush 8) 2 8), none, some (fl_e0 (.lushr) 1), some (fl_e0 (.ladd) 1)], [some (fl_e0 (.lstore_n 0) 1), some (fl_e0 (.lload_n 0) 1), some (fl_e0 (.lload_n 0) 1), some (fl_ex1 (.bipush 16) 2 16), none, some (fl_e0 (.lushr) 1), some (fl_e0 (.ladd) 1), some (fl_e0 (.lstore_n 0) 1)], [some (fl_e0 (.lload_n 0) 1), some (fl_e0 (.lload_n 0) 1), some (fl_ex1 (.bipush 32) 2 32), none, some (fl_e0 (.lushr) 1), some (fl_e0 (.ladd) 1), some (fl_e0 (.lstore_n 0) 1), some (fl_e0 (.lload_n 0) 1)], [some (fl_e0 (.l2i) 1), some (fl_ex1 (.bipush 127) 2 127), none, some (fl_e0 (.iand) 1), some (fl_e0 (.ireturn) 1)]]]
/-- FaultLists.applyText(LFaultLists$Run;)I -/
def fl_c127 : List (List (List (Option fl_E))) := [[[some (fl_ea (.aload_n 1) 1 1), some (fl_ef (.getfield 72) 3 7 0 2 0 230), none, none, some (fl_ef (.getfield 293) 3 4 0 0 0 78), none, none, some (fl_ea (.istore_n 2) 1 2)], [some (fl_e0 (.aload_n 0) 1), some (fl_ea (.iload_n 2) 1 2), some (fl_ex1 (.bipush 80) 2 80), none, fl_el (fl_ef (.invokevirtual 280) 3 108 3 1 90 648) [true, true, true], none, none, some (fl_ea (.istore_n 3) 1 3)], [some (fl_ea (.iload_n 3) 1 3), some (fl_ex1 (.iconst (-1)) 1 (-1)), some (fl_ea (.if_icmp .eq 11) 3 29), none, none, some (fl_ex1 (.iconst (-1)) 1 (-1)), some (fl_ea (.iload_n 3) 1 3), some (fl_e0 (.isub) 1)], [some (fl_ea (.istore 4) 2 4), none, some (fl_ea (.goto 112) 3 138), none, none, some (fl_ea (.aload_n 1) 1 1), some (fl_ef (.getfield 167) 3 7 3 0 0 236), none], [none, some (fl_ea (.iload_n 2) 1 2), some (fl_e0 (.imul) 1), some (fl_e0 (.aload_n 0) 1), some (fl_ef (.getfield 14) 3 10 0 2 0 385), none, none, fl_el (fl_ef (.invokevirtual 87) 3 31 1 1 21 429) [true, true, true]], [none, none, some (fl_e0 (.iadd) 1), some (fl_ex1 (.bipush 24) 2 24), none, some (fl_ea (.iload_n 2) 1 2), some (fl_e0 (.imul) 1), some (fl_ea (.if_icmp .le 11) 3 58)], [none, none, some (fl_ex1 (.sipush (-200)) 3 (-200)), none, none, some (fl_ea (.istore 4) 2 4), none, some (fl_ea (.goto 83) 3 138)], [none, none, some (fl_ea (.aload_n 1) 1 1), some (fl_ef (.getfield 213) 3 7 5 1 0 240), none, none, some (fl_ea (.lstore 5) 2 5), none]], [[some (fl_e0 (.iconst 0) 1), some (fl_ea (.istore 7) 2 7), none, fl_el (fl_ea (.iload 7) 2 7) [true, true, true, false, false, true, false, true], none, some (fl_ex1 (.bipush 24) 2 24), none, some (fl_ea (.if_icmp .ge 36) 3 107)], [none, none, some (fl_ea (.iload 7) 2 7), none, some (fl_ea (.iload_n 2) 1 2), some (fl_e0 (.imul) 1), some (fl_e0 (.aload_n 0) 1), some (fl_ef (.getfield 14) 3 10 0 2 0 385)], [none, none, fl_el (fl_ef (.invokevirtual 87) 3 31 1 1 21 429) [true, true, true, false, false, true, false, true], none, none, some (fl_ea (.if_icmp .ge 22) 3 107), none, none], [some (fl_ea (.aload_n 1) 1 1), some (fl_e0 (.aload_n 0) 1), some (fl_ea (.iload 7) 2 7), none, some (fl_ea (.iload_n 2) 1 2), some (fl_e0 (.imul) 1), some (fl_ea (.iload_n 2) 1 2), fl_el (fl_ef (.invokevirtual 336) 3 109 3 1 90 666) [true, true, true, false, false, true, false, true]], [none, none, fl_el (fl_ef (.invokevirtual 339) 3 124 2 1 71 670) [true, true, true, false, false, true, false, true], none, none, some (fl_ew (.iinc 7 1) 3 7 0 0 0 0 1 0 []), none, none], [some (fl_ea (.goto (-37)) 3 67), none, none, fl_el (fl_e0 (.aload_n 0) 1) [true, true, false, false, false, true], some (fl_ea (.aload_n 1) 1 1), some (fl_ef (.getfield 213) 3 7 5 1 0 240), none, none], [some (fl_ea (.lload 5) 2 5), none, some (fl_ew (.ldc2_w 311) 3 0 0 0 0 738 0 (-1) []), none, none, some (fl_e0 (.lxor) 1), some (fl_e0 (.land) 1), fl_el (fl_ef (.invokevirtual 185) 3 125 2 1 58 739) [true, true, false, false, false, true]], [none, none, some (fl_ea (.aload_n 1) 1 1), some (fl_ef (.getfield 213) 3 7 5 1 0 240), none, none, some (fl_ea (.lload 5) 2 5), none]], [[some (fl_ew (.ldc2_w 311) 3 0 0 0 0 738 0 (-1) []), none, none, some (fl_e0 (.lxor) 1), some (fl_e0 (.land) 1), fl_el (fl_ef (.invokestatic 174) 3 126 1 0 32 743) [true], none, none], [some (fl_ea (.istore 4) 2 4), none, fl_el (fl_e0 (.aload_n 0) 1) [true, false, false, false, true], some (fl_ef (.getfield 14) 3 10 0 2 0 385), none, none, fl_el (fl_ef (.invokevirtual 103) 3 40 1 1 21 625) [false, false, false, false, true], none], [none, some (fl_ea (.iload 4) 2 4), none, some (fl_e0 (.ireturn) 1)]]]
/-- FaultLists.applies()I -/
def fl_c128 : List (List (List (Option fl_E))) := [[[some (fl_e0 (.aload_n 0) 1), some (fl_e0 (.aload_n 0) 1), some (fl_ef (.getfield 31) 3 10 3 2 0 388), none, none, fl_el (fl_ef (.invokevirtual 160) 3 127 2 1 138 644) [], none, none], [some (fl_e0 (.ireturn) 1)]]]
/-- FaultListsModel.inputs()I -/
def fl_c129 : List (List (List (Option fl_E))) := [[[some (fl_e0 (.aload_n 0) 1), some (fl_ef (.getfield 59) 3 11 7 2 0 1128), none, none, some (fl_ex1 (.iconst 1) 1 1), some (fl_ea (.iaload) 1 2), some (fl_e0 (.ireturn) 1)]]]
/-- FaultListsModel.ticks()I -/
def fl_c130 : List (List (List (Option fl_E))) := [[[some (fl_e0 (.aload_n 0) 1), some (fl_ef (.getfield 59) 3 11 7 2 0 1128), none, none, some (fl_ex1 (.bipush 76) 2 76), none, some (fl_ea (.iaload) 1 2), some (fl_e0 (.ireturn) 1)]]]
/-- FaultListsModel.takesRun()V -/
def fl_c131 : List (List (List (Option fl_E))) := [[[some (fl_e0 (.aload_n 0) 1), some (fl_e0 (.aload_n 0) 1), fl_el (fl_ef (.invokevirtual 211) 3 130 1 1 27 1353) [true], none, none, some (fl_ef (.putfield 214) 3 11 16 0 0 1137), none, none], [fl_el (fl_e0 (.iconst 0) 1) [true], some (fl_ea (.istore_n 1) 1 1), fl_el (fl_ea (.iload_n 1) 1 1) [true, true], some (fl_e0 (.aload_n 0) 1), some (fl_ef (.getfield 214) 3 11 16 0 0 1137), none, none, some (fl_ea (.if_icmp .ge 24) 3 39)], [none, none, some (fl_e0 (.aload_n 0) 1), some (fl_ef (.getfield 77) 3 11 15 2 0 1136), none, none, some (fl_ea (.iload_n 1) 1 1), some (fl_e0 (.aload_n 0) 1)], [some (fl_ef (.getfield 59) 3 11 7 2 0 1128), none, none, some (fl_ex1 (.bipush 78) 2 78), none, some (fl_ea (.iload_n 1) 1 1), some (fl_e0 (.iadd) 1), some (fl_ea (.iaload) 1 2)], [some (fl_e0 (.iastore) 1), fl_el (fl_ew (.iinc 1 1) 3 1 0 0 0 0 1 0 []) [true, true], none, none, some (fl_ea (.goto (-26)) 3 10), none, none, some (fl_e0 (.return_) 1)]]]
/-- FaultListsModel.starts()V -/
def fl_c132 : List (List (List (Option fl_E))) := [[[some (fl_e0 (.iconst 0) 1), some (fl_ea (.istore_n 1) 1 1), fl_el (fl_ea (.iload_n 1) 1 1) [true, true], some (fl_e0 (.aload_n 0) 1), fl_el (fl_ef (.invokevirtual 126) 3 95 1 1 27 1319) [true, true], none, none, some (fl_ea (.if_icmp .ge 24) 3 31)], [none, none, some (fl_e0 (.aload_n 0) 1), some (fl_ef (.getfield 74) 3 11 14 2 0 1135), none, none, some (fl_ea (.iload_n 1) 1 1), some (fl_e0 (.aload_n 0) 1)], [some (fl_ef (.getfield 59) 3 11 7 2 0 1128), none, none, some (fl_ex1 (.bipush 40) 2 40), none, some (fl_ea (.iload_n 1) 1 1), some (fl_e0 (.iadd) 1), some (fl_ea (.iaload) 1 2)], [some (fl_e0 (.iastore) 1), fl_el (fl_ew (.iinc 1 1) 3 1 0 0 0 0 1 0 []) [true, true], none, none, some (fl_ea (.goto (-26)) 3 2), none, none, some (fl_e0 (.return_) 1)]]]
/-- FaultListsModel.inputOf(II)I -/
def fl_c133 : List (List (List (Option fl_E))) := [[[some (fl_e0 (.iload_n 0) 1), some (fl_ex1 (.iconst 2) 1 2), some (fl_ea (.iload_n 1) 1 1), some (fl_e0 (.imul) 1), some (fl_e0 (.ishr) 1), some (fl_ex1 (.iconst 3) 1 3), some (fl_e0 (.iand) 1), some (fl_e0 (.ireturn) 1)]]]
/-- FaultListsModel.pinned(II)I -/
def fl_c134 : List (List (List (Option fl_E))) := [[[some (fl_ea (.iload_n 2) 1 2), some (fl_ex1 (.iconst 2) 1 2), some (fl_e0 (.aload_n 0) 1), fl_el (fl_ef (.invokevirtual 126) 3 95 1 1 27 1319) [true, true], none, none, some (fl_ea (.iload_n 1) 1 1), some (fl_e0 (.iadd) 1)], [some (fl_e0 (.imul) 1), some (fl_e0 (.isub) 1), some (fl_ea (.istore_n 3) 1 3), some (fl_ea (.iload_n 3) 1 3), some (fl_ea (.ifCond .eq 8) 3 20), none, none, some (fl_ea (.iload_n 3) 1 3)], [some (fl_ex1 (.iconst 1) 1 1), some (fl_ea (.if_icmp .ne 7) 3 24), none, none, fl_el (fl_ea (.iload_n 3) 1 3) [false, false, false, true], some (fl_ea (.goto 17) 3 38), none, none], [some (fl_e0 (.aload_n 0) 1), some (fl_ef (.getfield 71) 3 11 13 2 0 1134), none, none, some (fl_e0 (.aload_n 0) 1), some (fl_ef (.getfield 59) 3 11 7 2 0 1128), none, none], [some (fl_ex1 (.bipush 52) 2 52), none, some (fl_ea (.iload_n 1) 1 1), some (fl_e0 (.iadd) 1), some (fl_ea (.iaload) 1 2), some (fl_ea (.iaload) 1 2), some (fl_e0 (.ireturn) 1)]]]
/-- FaultListsModel.gated(II)I -/
def fl_c135 : List (List (List (Option fl_E))) := [[[some (fl_e0 (.aload_n 0) 1), some (fl_ef (.getfield 59) 3 11 7 2 0 1128), none, none, some (fl_ex1 (.bipush 16) 2 16), none, some (fl_ea (.iload_n 1) 1 1), some (fl_e0 (.iadd) 1)], [some (fl_ea (.iaload) 1 2), some (fl_ea (.istore_n 3) 1 3), some (fl_e0 (.aload_n 0) 1), some (fl_ef (.getfield 59) 3 11 7 2 0 1128), none, none, some (fl_ex1 (.bipush 28) 2 28), none], [some (fl_ea (.iload_n 1) 1 1), some (fl_e0 (.iadd) 1), some (fl_ea (.iaload) 1 2), some (fl_ea (.istore 4) 2 4), none, some (fl_e0 (.iconst 0) 1), some (fl_ea (.istore 5) 2 5), none], [some (fl_e0 (.iconst 0) 1), some (fl_ea (.istore 6) 2 6), none, some (fl_ea (.iload_n 3) 1 3), some (fl_ea (.istore 7) 2 7), none, fl_el (fl_ea (.iload 7) 2 7) [true, true, true, true, true, true, true, true], none], [some (fl_ea (.iload_n 3) 1 3), some (fl_ea (.iload 4) 2 4), none, some (fl_e0 (.iadd) 1), some (fl_ea (.if_icmp .ge 55) 3 91), none, none, some (fl_e0 (.aload_n 0) 1)], [some (fl_ea (.iload 7) 2 7), none, some (fl_ea (.iload_n 2) 1 2), fl_el (fl_ef (.invokevirtual 196) 3 134 3 1 75 1388) [true, true, true, true, true, true, true, true], none, none, some (fl_ea (.istore 8) 2 8), none], [some (fl_ea (.iload 5) 2 5), none, some (fl_ea (.iload 8) 2 8), none, some (fl_ea (.ifCond .ne 7) 3 59), none, none, some (fl_ex1 (.iconst 1) 1 1)], [some (fl_ea (.goto 4) 3 60), none, none, some (fl_e0 (.iconst 0) 1), fl_el (fl_ef (.invokestatic 49) 3 79 1 0 16 1271) [true, true, true, true, true, false, true, true, true], none, none, some (fl_e0 (.iadd) 1)]], [[some (fl_ea (.istore 5) 2 5), none, some (fl_ea (.iload 6) 2 6), none, some (fl_ea (.iload 8) 2 8), none, some (fl_ex1 (.iconst 1) 1 1), some (fl_ea (.if_icmp .ne 7) 3 78)], [none, none, some (fl_ex1 (.iconst 1) 1 1), some (fl_ea (.goto 4) 3 79), none, none, some (fl_e0 (.iconst 0) 1), fl_el (fl_ef (.invokestatic 49) 3 79 1 0 16 1271) [true, true, true, true, true, true, false, true]], [none, none, some (fl_e0 (.iadd) 1), some (fl_ea (.istore 6) 2 6), none, some (fl_ew (.iinc 7 1) 3 7 0 0 0 0 1 0 []), none, none], [some (fl_ea (.goto (-58)) 3 30), none, none, some (fl_ea (.iload 5) 2 5), none, some (fl_ea (.iload 6) 2 6), none, some (fl_e0 (.iadd) 1)], [some (fl_ea (.iload 4) 2 4), none, some (fl_ea (.if_icmp .ne 7) 3 105), none, none, some (fl_ex1 (.iconst 1) 1 1), some (fl_ea (.goto 4) 3 106), none], [none, some (fl_e0 (.iconst 0) 1), fl_el (fl_ea (.istore 7) 2 7) [true, true, false, false, false, true, true], none, some (fl_e0 (.aload_n 0) 1), some (fl_ef (.getfield 59) 3 11 7 2 0 1128), none, none], [some (fl_ex1 (.iconst 4) 1 4), some (fl_ea (.iload_n 1) 1 1), some (fl_e0 (.iadd) 1), some (fl_ea (.iaload) 1 2), some (fl_ew (.tableswitch 84 3 7 #[36, 60, 84, 36, 60]) 36 200 0 0 0 0 0 0 [(3, 152), (4, 176), (5, 200), (6, 152), (7, 176)]), none, none, none], [none, none, none, none, none, none, none, none]], [[none, none, none, none, none, none, none, none], [none, none, none, none, none, none, none, none], [none, none, none, none, none, none, none, none], [fl_el (fl_ea (.iload 5) 2 5) [true, true, false, false, false, true, false, true], none, some (fl_ea (.ifCond .le 7) 3 161), none, none, some (fl_e0 (.iconst 0) 1), some (fl_ea (.goto 13) 3 171), none], [none, some (fl_ea (.iload 7) 2 7), none, some (fl_ea (.ifCond .eq 7) 3 170), none, none, some (fl_ex1 (.iconst 1) 1 1), some (fl_ea (.goto 4) 3 171)], [none, none, some (fl_ex1 (.iconst 2) 1 2), some (fl_ea (.istore 8) 2 8), none, some (fl_ea (.goto 42) 3 215), none, none], [fl_el (fl_ea (.iload 6) 2 6) [true, true, false, false, false, false, true, true], none, some (fl_ea (.ifCond .le 7) 3 185), none, none, some (fl_ex1 (.iconst 1) 1 1), some (fl_ea (.goto 13) 3 195), none], [none, some (fl_ea (.iload 7) 2 7), none, some (fl_ea (.ifCond .eq 7) 3 194), none, none, some (fl_e0 (.iconst 0) 1), some (fl_ea (.goto 4) 3 195)]], [[none, none, some (fl_ex1 (.iconst 2) 1 2), some (fl_ea (.istore 8) 2 8), none, some (fl_ea (.goto 18) 3 215), none, none], [fl_el (fl_ea (.iload 7) 2 7) [true, true, false, false, false, false, true, true], none, some (fl_ea (.ifCond .eq 10) 3 212), none, none, some (fl_ea (.iload 6) 2 6), none, some (fl_ex1 (.iconst 2) 1 2)], [some (fl_e0 (.irem) 1), some (fl_ea (.goto 4) 3 213), none, none, some (fl_ex1 (.iconst 2) 1 2), some (fl_ea (.istore 8) 2 8), none, fl_el (fl_e0 (.aload_n 0) 1) [true, true, false, false, false, false, false, false, true]], [some (fl_ef (.getfield 59) 3 11 7 2 0 1128), none, none, some (fl_ex1 (.iconst 4) 1 4), some (fl_ea (.iload_n 1) 1 1), some (fl_e0 (.iadd) 1), some (fl_ea (.iaload) 1 2), some (fl_ea (.istore 9) 2 9)], [none, some (fl_ea (.iload 9) 2 9), none, some (fl_ex1 (.iconst 1) 1 1), some (fl_ea (.if_icmp .eq 17) 3 245), none, none, some (fl_ea (.iload 9) 2 9)], [none, some (fl_ex1 (.bipush 6) 2 6), none, some (fl_ea (.if_icmp .eq 10) 3 245), none, none, some (fl_ea (.iload 9) 2 9), none], [some (fl_ex1 (.bipush 7) 2 7), none, some (fl_ea (.if_icmp .ne 16) 3 258), none, none, fl_el (fl_ea (.iload 8) 2 8) [false, false, false, false, false, false, false, false, true], none, some (fl_ex1 (.iconst 2) 1 2)], [some (fl_ea (.if_icmp .ge 10) 3 258), none, none, some (fl_ex1 (.iconst 1) 1 1), some (fl_ea (.iload 8) 2 8), none, some (fl_e0 (.isub) 1), some (fl_ea (.goto 5) 3 260)]], [[none, none, fl_el (fl_ea (.iload 8) 2 8) [false, false, false, false, false, false, false, false, true], none, some (fl_e0 (.ireturn) 1)]]]
/-- FaultListsModel.lays(II)V -/
def fl_c136 : List (List (List (Option fl_E))) := [[[some (fl_e0 (.iconst 0) 1), some (fl_ea (.istore_n 3) 1 3), fl_el (fl_ea (.iload_n 3) 1 3) [true, true, true, true], some (fl_e0 (.aload_n 0) 1), fl_el (fl_ef (.invokevirtual 126) 3 95 1 1 27 1319) [true, true, true, true], none, none, some (fl_ea (.if_icmp .ge 82) 3 89)], [none, none, some (fl_ea (.iload_n 3) 1 3), some (fl_e0 (.aload_n 0) 1), fl_el (fl_ef (.invokevirtual 199) 3 129 1 1 27 1349) [true, true, true, true], none, none, some (fl_ea (.if_icmp .ge 11) 3 26)], [none, none, some (fl_ea (.iload_n 1) 1 1), some (fl_ea (.iload_n 3) 1 3), fl_el (fl_ef (.invokestatic 202) 3 133 2 0 32 1381) [true, true, true, true], none, none, some (fl_ea (.goto 26) 3 49)], [none, none, some (fl_e0 (.aload_n 0) 1), some (fl_ea (.iload_n 3) 1 3), fl_el (fl_ef (.invokevirtual 132) 3 97 2 1 43 1324) [true, true, true, true], none, none, some (fl_ea (.ifCond .eq 12) 3 43)], [none, none, some (fl_e0 (.aload_n 0) 1), some (fl_ef (.getfield 74) 3 11 14 2 0 1135), none, none, some (fl_ea (.iload_n 3) 1 3), some (fl_ea (.iaload) 1 2)], [some (fl_ea (.goto 9) 3 49), none, none, some (fl_e0 (.aload_n 0) 1), some (fl_ea (.iload_n 3) 1 3), some (fl_ea (.iload_n 2) 1 2), fl_el (fl_ef (.invokevirtual 205) 3 135 3 1 171 1384) [true, true, true, true], none], [none, some (fl_ea (.istore 4) 2 4), none, some (fl_e0 (.aload_n 0) 1), some (fl_ef (.getfield 71) 3 11 13 2 0 1134), none, none, some (fl_ea (.iload_n 3) 1 3)], [some (fl_ea (.iload_n 2) 1 2), some (fl_ex1 (.iconst 2) 1 2), some (fl_ea (.iload_n 3) 1 3), some (fl_e0 (.imul) 1), some (fl_ea (.if_icmp .ne 7) 3 67), none, none, some (fl_e0 (.iconst 0) 1)]], [[some (fl_ea (.goto 18) 3 82), none, none, some (fl_ea (.iload_n 2) 1 2), some (fl_ex1 (.iconst 2) 1 2), some (fl_ea (.iload_n 3) 1 3), some (fl_e0 (.imul) 1), some (fl_ex1 (.iconst 1) 1 1)], [some (fl_e0 (.iadd) 1), some (fl_ea (.if_icmp .ne 7) 3 80), none, none, some (fl_ex1 (.iconst 1) 1 1), some (fl_ea (.goto 5) 3 82), none, none], [some (fl_ea (.iload 4) 2 4), none, some (fl_e0 (.iastore) 1), fl_el (fl_ew (.iinc 3 1) 3 3 0 0 0 0 1 0 []) [true, true, true, true], none, none, some (fl_ea (.goto (-84)) 3 2), none], [none, some (fl_e0 (.return_) 1)]]]
/-- FaultListsModel.tick(II)V -/
def fl_c137 : List (List (List (Option fl_E))) := [[[some (fl_e0 (.aload_n 0) 1), some (fl_ea (.iload_n 1) 1 1), some (fl_ea (.iload_n 2) 1 2), fl_el (fl_ef (.invokevirtual 208) 3 136 3 1 91 1377) [true, false, true], none, none, some (fl_e0 (.iconst 0) 1), some (fl_ea (.istore_n 3) 1 3)], [fl_el (fl_ea (.iload_n 3) 1 3) [true, false, true, true], some (fl_e0 (.aload_n 0) 1), fl_el (fl_ef (.invokevirtual 126) 3 95 1 1 27 1319) [true, false, true, true], none, none, some (fl_ea (.if_icmp .ge 41) 3 54), none, none], [some (fl_e0 (.aload_n 0) 1), some (fl_ef (.getfield 74) 3 11 14 2 0 1135), none, none, some (fl_ea (.iload_n 3) 1 3), some (fl_e0 (.aload_n 0) 1), some (fl_ea (.iload_n 3) 1 3), fl_el (fl_ef (.invokevirtual 132) 3 97 2 1 43 1324) [true, false, true, true]], [none, none, some (fl_ea (.ifCond .eq 20) 3 46), none, none, some (fl_e0 (.aload_n 0) 1), some (fl_e0 (.aload_n 0) 1), some (fl_ef (.getfield 59) 3 11 7 2 0 1128)], [none, none, some (fl_ex1 (.bipush 16) 2 16), none, some (fl_ea (.iload_n 3) 1 3), some (fl_e0 (.iadd) 1), some (fl_ea (.iaload) 1 2), some (fl_ea (.iload_n 2) 1 2)], [fl_el (fl_ef (.invokevirtual 196) 3 134 3 1 75 1388) [true, false, true, true], none, none, some (fl_ea (.goto 4) 3 47), none, none, some (fl_ex1 (.iconst 2) 1 2), some (fl_e0 (.iastore) 1)], [fl_el (fl_ew (.iinc 3 1) 3 3 0 0 0 0 1 0 []) [true, false, true, true], none, none, some (fl_ea (.goto (-43)) 3 8), none, none, some (fl_e0 (.return_) 1)]]]
/-- FaultListsModel.laysGood()V -/
def fl_c138 : List (List (List (Option fl_E))) := [[[some (fl_e0 (.aload_n 0) 1), fl_el (fl_ef (.invokevirtual 217) 3 132 1 1 43 1369) [true], none, none, some (fl_e0 (.iconst 0) 1), some (fl_ea (.istore_n 1) 1 1), fl_el (fl_ea (.iload_n 1) 1 1) [true, true], some (fl_e0 (.aload_n 0) 1)], [some (fl_ef (.getfield 214) 3 11 16 0 0 1137), none, none, some (fl_ea (.if_icmp .ge 53) 3 64), none, none, some (fl_e0 (.aload_n 0) 1), some (fl_e0 (.aload_n 0) 1)], [some (fl_ef (.getfield 77) 3 11 15 2 0 1136), none, none, some (fl_ea (.iload_n 1) 1 1), some (fl_ea (.iaload) 1 2), some (fl_ex1 (.iconst (-1)) 1 (-1)), fl_el (fl_ef (.invokevirtual 220) 3 137 3 1 75 1373) [true, true], none], [none, some (fl_e0 (.iconst 0) 1), some (fl_ea (.istore_n 2) 1 2), fl_el (fl_ea (.iload_n 2) 1 2) [true, true, true], some (fl_e0 (.aload_n 0) 1), fl_el (fl_ef (.invokevirtual 126) 3 95 1 1 27 1319) [true, true, true], none, none], [some (fl_ea (.if_icmp .ge 26) 3 58), none, none, some (fl_e0 (.aload_n 0) 1), some (fl_ef (.getfield 80) 3 11 17 2 0 1138), none, none, some (fl_ex1 (.bipush 12) 2 12)], [none, some (fl_ea (.iload_n 1) 1 1), some (fl_e0 (.imul) 1), some (fl_ea (.iload_n 2) 1 2), some (fl_e0 (.iadd) 1), some (fl_e0 (.aload_n 0) 1), some (fl_ef (.getfield 71) 3 11 13 2 0 1134), none], [none, some (fl_ea (.iload_n 2) 1 2), some (fl_ea (.iaload) 1 2), some (fl_e0 (.iastore) 1), fl_el (fl_ew (.iinc 2 1) 3 2 0 0 0 0 1 0 []) [true, true, true], none, none, some (fl_ea (.goto (-28)) 3 27)], [none, none, some (fl_ew (.iinc 1 1) 3 1 0 0 0 0 1 0 []), none, none, some (fl_ea (.goto (-55)) 3 6), none, none]], [[some (fl_e0 (.iconst 0) 1), some (fl_ea (.istore_n 1) 1 1), fl_el (fl_ea (.iload_n 1) 1 1) [true, true], some (fl_e0 (.aload_n 0) 1), fl_el (fl_ef (.invokevirtual 126) 3 95 1 1 27 1319) [true, true], none, none, some (fl_ea (.if_icmp .ge 21) 3 92)], [none, none, some (fl_e0 (.aload_n 0) 1), some (fl_ef (.getfield 83) 3 11 18 2 0 1139), none, none, some (fl_ea (.iload_n 1) 1 1), some (fl_e0 (.aload_n 0) 1)], [some (fl_ef (.getfield 74) 3 11 14 2 0 1135), none, none, some (fl_ea (.iload_n 1) 1 1), some (fl_ea (.iaload) 1 2), some (fl_e0 (.iastore) 1), fl_el (fl_ew (.iinc 1 1) 3 1 0 0 0 0 1 0 []) [true, true], none], [none, some (fl_ea (.goto (-23)) 3 66), none, none, some (fl_e0 (.return_) 1)]]]
/-- FaultListsModel.shows(I)I -/
def fl_c139 : List (List (List (Option fl_E))) := [[[some (fl_e0 (.iconst 0) 1), some (fl_ea (.istore_n 2) 1 2), some (fl_e0 (.iconst 0) 1), some (fl_ea (.istore_n 3) 1 3), fl_el (fl_ea (.iload_n 3) 1 3) [true, true, true, true], some (fl_e0 (.aload_n 0) 1), some (fl_ef (.getfield 59) 3 11 7 2 0 1128), none], [none, some (fl_ex1 (.iconst 3) 1 3), some (fl_ea (.iaload) 1 2), some (fl_ea (.if_icmp .ge 74) 3 85), none, none, some (fl_e0 (.aload_n 0) 1), some (fl_ef (.getfield 59) 3 11 7 2 0 1128)], [none, none, some (fl_ex1 (.bipush 72) 2 72), none, some (fl_ea (.iload_n 3) 1 3), some (fl_e0 (.iadd) 1), some (fl_ea (.iaload) 1 2), some (fl_ea (.istore 4) 2 4)], [none, some (fl_e0 (.aload_n 0) 1), some (fl_ef (.getfield 80) 3 11 17 2 0 1138), none, none, some (fl_ex1 (.bipush 12) 2 12), none, some (fl_ea (.iload_n 1) 1 1)], [some (fl_e0 (.imul) 1), some (fl_ea (.iload 4) 2 4), none, some (fl_e0 (.iadd) 1), some (fl_ea (.iaload) 1 2), some (fl_ea (.istore 5) 2 5), none, some (fl_ea (.iload_n 2) 1 2)], [some (fl_ea (.iload 5) 2 5), none, some (fl_ex1 (.iconst 2) 1 2), some (fl_ea (.if_icmp .eq 33) 3 76), none, none, some (fl_e0 (.aload_n 0) 1), some (fl_ef (.getfield 71) 3 11 13 2 0 1134)], [none, none, some (fl_ea (.iload 4) 2 4), none, some (fl_ea (.iaload) 1 2), some (fl_ex1 (.iconst 2) 1 2), some (fl_ea (.if_icmp .eq 22) 3 76), none], [none, some (fl_ea (.iload 5) 2 5), none, some (fl_e0 (.aload_n 0) 1), some (fl_ef (.getfield 71) 3 11 13 2 0 1134), none, none, some (fl_ea (.iload 4) 2 4)]], [[none, some (fl_ea (.iaload) 1 2), some (fl_ea (.if_icmp .eq 10) 3 76), none, none, some (fl_ex1 (.iconst 1) 1 1), some (fl_ea (.iload 4) 2 4), none], [some (fl_e0 (.ishl) 1), some (fl_ea (.goto 4) 3 77), none, none, some (fl_e0 (.iconst 0) 1), some (fl_e0 (.ior) 1), some (fl_ea (.istore_n 2) 1 2), some (fl_ew (.iinc 3 1) 3 3 0 0 0 0 1 0 [])], [none, none, some (fl_ea (.goto (-78)) 3 4), none, none, some (fl_ea (.iload_n 2) 1 2), some (fl_e0 (.ireturn) 1)]]]
/-- FaultListsModel.runs(I)V -/
def fl_c140 : List (List (List (Option fl_E))) := [[[some (fl_e0 (.aload_n 0) 1), some (fl_ef (.getfield 86) 3 11 19 2 0 1140), none, none, some (fl_ea (.iload_n 1) 1 1), some (fl_ex1 (.iconst (-1)) 1 (-1)), some (fl_e0 (.iastore) 1), fl_el (fl_e0 (.aload_n 0) 1) [true, true]], [some (fl_ef (.getfield 89) 3 11 20 2 0 1141), none, none, some (fl_ea (.iload_n 1) 1 1), some (fl_e0 (.iconst 0) 1), some (fl_e0 (.iastore) 1), fl_el (fl_e0 (.aload_n 0) 1) [true, true], some (fl_ef (.getfield 92) 3 11 21 2 0 1142)], [none, none, some (fl_ea (.iload_n 1) 1 1), some (fl_ex1 (.iconst (-1)) 1 (-1)), some (fl_e0 (.iastore) 1), fl_el (fl_e0 (.aload_n 0) 1) [true, true], fl_el (fl_ef (.invokevirtual 217) 3 132 1 1 43 1369) [true, true], none], [none, some (fl_e0 (.iconst 0) 1), some (fl_ea (.istore_n 2) 1 2), fl_el (fl_ea (.iload_n 2) 1 2) [true, true, true], some (fl_e0 (.aload_n 0) 1), some (fl_ef (.getfield 214) 3 11 16 0 0 1137), none, none], [some (fl_ea (.if_icmp .ge 86) 3 118), none, none, some (fl_e0 (.aload_n 0) 1), some (fl_ef (.getfield 92) 3 11 21 2 0 1142), none, none, some (fl_ea (.iload_n 1) 1 1)], [some (fl_ea (.iaload) 1 2), some (fl_ea (.ifCond .ge 77) 3 118), none, none, some (fl_e0 (.aload_n 0) 1), some (fl_e0 (.aload_n 0) 1), some (fl_ef (.getfield 77) 3 11 15 2 0 1136), none], [none, some (fl_ea (.iload_n 2) 1 2), some (fl_ea (.iaload) 1 2), some (fl_ea (.iload_n 1) 1 1), fl_el (fl_ef (.invokevirtual 220) 3 137 3 1 75 1373) [true, true, true], none, none, some (fl_e0 (.aload_n 0) 1)], [some (fl_ea (.iload_n 2) 1 2), fl_el (fl_ef (.invokevirtual 223) 3 139 2 1 107 1396) [true, true, true], none, none, some (fl_ea (.istore_n 3) 1 3), some (fl_ea (.iload_n 3) 1 3), some (fl_ea (.ifCond .eq 26) 3 88), none]], [[none, some (fl_e0 (.aload_n 0) 1), some (fl_ef (.getfield 86) 3 11 19 2 0 1140), none, none, some (fl_ea (.iload_n 1) 1 1), some (fl_ea (.iaload) 1 2), some (fl_ea (.ifCond .ge 17) 3 88)], [none, none, some (fl_e0 (.aload_n 0) 1), some (fl_ef (.getfield 86) 3 11 19 2 0 1140), none, none, some (fl_ea (.iload_n 1) 1 1), some (fl_ea (.iload_n 2) 1 2)], [some (fl_e0 (.iastore) 1), fl_el (fl_e0 (.aload_n 0) 1) [true, true, true, true], some (fl_ef (.getfield 89) 3 11 20 2 0 1141), none, none, some (fl_ea (.iload_n 1) 1 1), some (fl_ea (.iload_n 3) 1 3), some (fl_e0 (.iastore) 1)], [fl_el (fl_ea (.iload_n 3) 1 3) [true, true, true, true], some (fl_ea (.ifCond .eq 23) 3 112), none, none, some (fl_e0 (.aload_n 0) 1), some (fl_ef (.getfield 59) 3 11 7 2 0 1128), none, none], [some (fl_ex1 (.bipush 102) 2 102), none, some (fl_ea (.iload_n 2) 1 2), some (fl_e0 (.iadd) 1), some (fl_ea (.iaload) 1 2), some (fl_ex1 (.iconst 1) 1 1), some (fl_ea (.if_icmp .ne 10) 3 112), none], [none, some (fl_e0 (.aload_n 0) 1), some (fl_ef (.getfield 92) 3 11 21 2 0 1142), none, none, some (fl_ea (.iload_n 1) 1 1), some (fl_ea (.iload_n 2) 1 2), some (fl_e0 (.iastore) 1)], [fl_el (fl_ew (.iinc 2 1) 3 2 0 0 0 0 1 0 []) [true, true, true], none, none, some (fl_ea (.goto (-88)) 3 27), none, none, fl_el (fl_e0 (.aload_n 0) 1) [true, true], some (fl_ef (.getfield 92) 3 11 21 2 0 1142)], [none, none, some (fl_ea (.iload_n 1) 1 1), some (fl_ea (.iaload) 1 2), some (fl_ea (.ifCond .lt 22) 3 146), none, none, some (fl_e0 (.aload_n 0) 1)]], [[some (fl_ef (.getfield 92) 3 11 21 2 0 1142), none, none, some (fl_ea (.iload_n 1) 1 1), some (fl_ea (.iaload) 1 2), some (fl_e0 (.aload_n 0) 1), some (fl_ef (.getfield 214) 3 11 16 0 0 1137), none], [none, some (fl_ex1 (.iconst 1) 1 1), some (fl_e0 (.isub) 1), some (fl_ea (.if_icmp .ge 7) 3 146), none, none, some (fl_ex1 (.iconst 1) 1 1), some (fl_ea (.goto 4) 3 147)], [none, none, fl_el (fl_e0 (.iconst 0) 1) [true, true], some (fl_ea (.istore_n 2) 1 2), some (fl_e0 (.iconst 0) 1), some (fl_ea (.istore_n 3) 1 3), fl_el (fl_ea (.iload_n 3) 1 3) [true, true, true, true], some (fl_e0 (.aload_n 0) 1)], [fl_el (fl_ef (.invokevirtual 126) 3 95 1 1 27 1319) [true, true, true, true], none, none, some (fl_ea (.if_icmp .ge 56) 3 211), none, none, some (fl_e0 (.aload_n 0) 1), some (fl_ef (.getfield 214) 3 11 16 0 0 1137)], [none, none, some (fl_ea (.ifCond .le 49) 3 211), none, none, some (fl_e0 (.aload_n 0) 1), some (fl_ef (.getfield 95) 3 11 22 2 0 1143), none], [none, some (fl_ex1 (.bipush 12) 2 12), none, some (fl_ea (.iload_n 1) 1 1), some (fl_e0 (.imul) 1), some (fl_ea (.iload_n 3) 1 3), some (fl_e0 (.iadd) 1), some (fl_ea (.iload_n 2) 1 2)], [some (fl_ea (.ifCond .eq 22) 3 198), none, none, some (fl_e0 (.aload_n 0) 1), some (fl_ef (.getfield 80) 3 11 17 2 0 1138), none, none, some (fl_ex1 (.bipush 12) 2 12)], [none, some (fl_e0 (.aload_n 0) 1), some (fl_ef (.getfield 214) 3 11 16 0 0 1137), none, none, some (fl_ex1 (.iconst 1) 1 1), some (fl_e0 (.isub) 1), some (fl_e0 (.imul) 1)]], [[some (fl_ea (.iload_n 3) 1 3), some (fl_e0 (.iadd) 1), some (fl_ea (.iaload) 1 2), some (fl_ea (.goto 9) 3 204), none, none, some (fl_e0 (.aload_n 0) 1), some (fl_ef (.getfield 71) 3 11 13 2 0 1134)], [none, none, some (fl_ea (.iload_n 3) 1 3), some (fl_ea (.iaload) 1 2), some (fl_e0 (.iastore) 1), fl_el (fl_ew (.iinc 3 1) 3 3 0 0 0 0 1 0 []) [true, true, true, true], none, none], [some (fl_ea (.goto (-58)) 3 150), none, none, fl_el (fl_e0 (.iconst 0) 1) [true, true], some (fl_ea (.istore_n 3) 1 3), fl_el (fl_ea (.iload_n 3) 1 3) [true, true, false, true], some (fl_e0 (.aload_n 0) 1), fl_el (fl_ef (.invokevirtual 126) 3 95 1 1 27 1319) [true, true, false, true]], [none, none, some (fl_ea (.if_icmp .ge 44) 3 262), none, none, some (fl_e0 (.aload_n 0) 1), some (fl_ef (.getfield 98) 3 11 23 2 0 1144), none], [none, some (fl_ex1 (.bipush 12) 2 12), none, some (fl_ea (.iload_n 1) 1 1), some (fl_e0 (.imul) 1), some (fl_ea (.iload_n 3) 1 3), some (fl_e0 (.iadd) 1), some (fl_e0 (.aload_n 0) 1)], [some (fl_ef (.getfield 92) 3 11 21 2 0 1142), none, none, some (fl_ea (.iload_n 1) 1 1), some (fl_ea (.iaload) 1 2), some (fl_ea (.ifCond .lt 12) 3 249), none, none], [some (fl_e0 (.aload_n 0) 1), some (fl_ef (.getfield 83) 3 11 18 2 0 1139), none, none, some (fl_ea (.iload_n 3) 1 3), some (fl_ea (.iaload) 1 2), some (fl_ea (.goto 9) 3 255), none], [none, some (fl_e0 (.aload_n 0) 1), some (fl_ef (.getfield 74) 3 11 14 2 0 1135), none, none, some (fl_ea (.iload_n 3) 1 3), some (fl_ea (.iaload) 1 2), some (fl_e0 (.iastore) 1)]], [[fl_el (fl_ew (.iinc 3 1) 3 3 0 0 0 0 1 0 []) [true, true, false, true], none, none, some (fl_ea (.goto (-46)) 3 213), none, none, some (fl_e0 (.return_) 1)]]]
/-- FaultListsModel.runsAll()V -/
def fl_c141 : List (List (List (Option fl_E))) := [[[some (fl_e0 (.aload_n 0) 1), fl_el (fl_ef (.invokevirtual 232) 3 131 1 1 43 1361) [true], none, none, some (fl_e0 (.aload_n 0) 1), fl_el (fl_ef (.invokevirtual 226) 3 138 1 1 59 1365) [true], none, none], [some (fl_e0 (.iconst 0) 1), some (fl_ea (.istore_n 1) 1 1), fl_el (fl_ea (.iload_n 1) 1 1) [true, true], some (fl_e0 (.aload_n 0) 1), fl_el (fl_ef (.invokevirtual 129) 3 88 1 1 27 1303) [true, true], none, none, some (fl_ea (.if_icmp .ge 14) 3 29)], [none, none, some (fl_e0 (.aload_n 0) 1), some (fl_ea (.iload_n 1) 1 1), fl_el (fl_ef (.invokevirtual 235) 3 140 2 1 75 1392) [true, true], none, none, some (fl_ew (.iinc 1 1) 3 1 0 0 0 0 1 0 [])], [none, none, some (fl_ea (.goto (-16)) 3 10), none, none, some (fl_e0 (.return_) 1)]]]
/-- FaultListsModel.detectedSet()J -/
def fl_c142 : List (List (List (Option fl_E))) := [[[some (fl_e0 (.lconst 0) 1), some (fl_ea (.lstore_n 1) 1 1), some (fl_e0 (.iconst 0) 1), some (fl_ea (.istore_n 3) 1 3), fl_el (fl_ea (.iload_n 3) 1 3) [true, true, false, true], some (fl_e0 (.aload_n 0) 1), fl_el (fl_ef (.invokevirtual 129) 3 88 1 1 27 1303) [true, true, false, true], none], [none, some (fl_ea (.if_icmp .ge 28) 3 37), none, none, some (fl_ea (.lload_n 1) 1 1), some (fl_e0 (.aload_n 0) 1), some (fl_ef (.getfield 86) 3 11 19 2 0 1140), none], [none, some (fl_ea (.iload_n 3) 1 3), some (fl_ea (.iaload) 1 2), some (fl_ea (.ifCond .lt 9) 3 28), none, none, some (fl_ew (.lconst 1) 1 0 0 0 0 0 0 1 []), some (fl_ea (.iload_n 3) 1 3)], [some (fl_e0 (.lshl) 1), some (fl_ea (.goto 4) 3 29), none, none, some (fl_e0 (.lconst 0) 1), some (fl_e0 (.lor) 1), some (fl_ea (.lstore_n 1) 1 1), some (fl_ew (.iinc 3 1) 3 3 0 0 0 0 1 0 [])], [none, none, some (fl_ea (.goto (-30)) 3 4), none, none, some (fl_ea (.lload_n 1) 1 1), some (fl_e0 (.lreturn) 1)]]]
/-- FaultListsModel.enters(J)V -/
def fl_c143 : List (List (List (Option fl_E))) := [[[some (fl_e0 (.aload_n 0) 1), some (fl_ef (.getfield 7) 3 11 2 2 0 1123), none, none, some (fl_e0 (.aload_n 0) 1), some (fl_ef (.getfield 11) 3 11 1 0 0 1122), none, none], [some (fl_ea (.lload_n 1) 1 1), some (fl_e0 (.lastore) 1), fl_el (fl_e0 (.aload_n 0) 1) [true], some (fl_e0 (.dup) 1), some (fl_ef (.getfield 11) 3 11 1 0 0 1122), none, none, some (fl_ex1 (.iconst 1) 1 1)], [some (fl_e0 (.iadd) 1), some (fl_ef (.putfield 11) 3 11 1 0 0 1122), none, none, some (fl_e0 (.return_) 1)]]]
/-- FaultListsModel.bitsOf(J)I -/
def fl_c144 : List (List (List (Option fl_E))) := [[[some (fl_e0 (.iconst 0) 1), some (fl_ea (.istore_n 2) 1 2), some (fl_e0 (.iconst 0) 1), some (fl_ea (.istore_n 3) 1 3), fl_el (fl_ea (.iload_n 3) 1 3) [true, false, true, true], some (fl_ex1 (.bipush 64) 2 64), none, some (fl_ea (.if_icmp .ge 18) 3 25)], [none, none, some (fl_ea (.iload_n 2) 1 2), some (fl_e0 (.lload_n 0) 1), some (fl_ea (.iload_n 3) 1 3), some (fl_e0 (.lshr) 1), some (fl_ew (.lconst 1) 1 0 0 0 0 0 0 1 []), some (fl_e0 (.land) 1)], [some (fl_e0 (.l2i) 1), some (fl_e0 (.iadd) 1), some (fl_ea (.istore_n 2) 1 2), some (fl_ew (.iinc 3 1) 3 3 0 0 0 0 1 0 []), none, none, some (fl_ea (.goto (-18)) 3 4), none], [none, some (fl_ea (.iload_n 2) 1 2), some (fl_e0 (.ireturn) 1)]]]
/-- FaultListsModel.appliesAll()I -/
def fl_c145 : List (List (List (Option fl_E))) := [[[some (fl_e0 (.aload_n 0) 1), fl_el (fl_ef (.invokevirtual 174) 3 72 1 1 27 1230) [true], none, none, some (fl_e0 (.iconst 0) 1), some (fl_ea (.istore_n 1) 1 1), fl_el (fl_ea (.iload_n 1) 1 1) [true, true], some (fl_e0 (.aload_n 0) 1)], [some (fl_ef (.getfield 25) 3 11 6 0 0 1127), none, none, some (fl_ea (.if_icmp .ge 27) 3 38), none, none, some (fl_ef (.ldc 239) 2 1048582 0 1 0 1348), none], [some (fl_e0 (.aload_n 0) 1), some (fl_ef (.getfield 17) 3 11 3 2 0 1124), none, none, some (fl_ea (.iload_n 1) 1 1), some (fl_ea (.iaload) 1 2), fl_el (fl_ef (.invokestatic 41) 3 77 2 0 48 1247) [true, true], none], [none, some (fl_ea (.ifCond .ge 7) 3 32), none, none, some (fl_ex1 (.iconst (-1)) 1 (-1)), some (fl_ea (.iload_n 1) 1 1), some (fl_e0 (.isub) 1), some (fl_e0 (.ireturn) 1)], [some (fl_ew (.iinc 1 1) 3 1 0 0 0 0 1 0 []), none, none, some (fl_ea (.goto (-29)) 3 6), none, none, some (fl_e0 (.aload_n 0) 1), some (fl_ef (.getfield 25) 3 11 6 0 0 1127)], [none, none, some (fl_e0 (.aload_n 0) 1), fl_el (fl_ef (.invokevirtual 199) 3 129 1 1 27 1349) [true], none, none, some (fl_e0 (.irem) 1), some (fl_ea (.ifCond .eq 10) 3 57)], [none, none, some (fl_ex1 (.iconst (-1)) 1 (-1)), some (fl_e0 (.aload_n 0) 1), some (fl_ef (.getfield 25) 3 11 6 0 0 1127), none, none, some (fl_e0 (.isub) 1)], [some (fl_e0 (.ireturn) 1), some (fl_e0 (.aload_n 0) 1), some (fl_ef (.getfield 25) 3 11 6 0 0 1127), none, none, some (fl_e0 (.aload_n 0) 1), fl_el (fl_ef (.invokevirtual 199) 3 129 1 1 27 1349) [true], none]], [[none, some (fl_e0 (.idiv) 1), some (fl_ea (.istore_n 1) 1 1), some (fl_e0 (.aload_n 0) 1), fl_el (fl_ef (.invokevirtual 211) 3 130 1 1 27 1353) [true, true], none, none, some (fl_ea (.iload_n 1) 1 1)], [some (fl_e0 (.iadd) 1), some (fl_ex1 (.bipush 24) 2 24), none, some (fl_ea (.if_icmp .le 7) 3 82), none, none, some (fl_ex1 (.sipush (-200)) 3 (-200)), none], [none, some (fl_e0 (.ireturn) 1), some (fl_e0 (.aload_n 0) 1), fl_el (fl_ef (.invokevirtual 241) 3 141 1 1 43 1357) [true, true], none, none, some (fl_e0 (.aload_n 0) 1), fl_el (fl_ef (.invokevirtual 244) 3 142 1 1 75 1400) [true, true]], [none, none, some (fl_ea (.lstore_n 2) 1 2), some (fl_e0 (.iconst 0) 1), some (fl_ea (.istore 4) 2 4), none, fl_el (fl_ea (.iload 4) 2 4) [true, true, true, false, true], none], [some (fl_ea (.iload_n 1) 1 1), some (fl_ea (.if_icmp .ge 104) 3 201), none, none, some (fl_e0 (.iconst 0) 1), some (fl_ea (.istore 5) 2 5), none, some (fl_e0 (.iconst 0) 1)], [some (fl_ea (.istore 6) 2 6), none, fl_el (fl_ea (.iload 6) 2 6) [true, true, true, false, true, true, true], none, some (fl_e0 (.aload_n 0) 1), fl_el (fl_ef (.invokevirtual 199) 3 129 1 1 27 1349) [true, true, true, false, true, true, true], none, none], [some (fl_ea (.if_icmp .ge 39) 3 151), none, none, some (fl_ea (.iload 5) 2 5), none, some (fl_ef (.ldc 239) 2 1048582 0 1 0 1348), none, some (fl_e0 (.aload_n 0) 1)], [some (fl_ef (.getfield 17) 3 11 3 2 0 1124), none, none, some (fl_e0 (.aload_n 0) 1), fl_el (fl_ef (.invokevirtual 199) 3 129 1 1 27 1349) [true, true, true, false, true, false, true], none, none, some (fl_ea (.iload 4) 2 4)]], [[none, some (fl_e0 (.imul) 1), some (fl_ea (.iload 6) 2 6), none, some (fl_e0 (.iadd) 1), some (fl_ea (.iaload) 1 2), fl_el (fl_ef (.invokestatic 41) 3 77 2 0 48 1247) [true, true, true, false, true, false, true], none], [none, some (fl_ex1 (.iconst 2) 1 2), some (fl_ea (.iload 6) 2 6), none, some (fl_e0 (.imul) 1), some (fl_e0 (.ishl) 1), some (fl_e0 (.ior) 1), some (fl_ea (.istore 5) 2 5)], [none, some (fl_ew (.iinc 6 1) 3 6 0 0 0 0 1 0 []), none, none, some (fl_ea (.goto (-42)) 3 106), none, none, some (fl_e0 (.aload_n 0) 1)], [some (fl_ef (.getfield 59) 3 11 7 2 0 1128), none, none, some (fl_ex1 (.bipush 78) 2 78), none, some (fl_e0 (.aload_n 0) 1), fl_el (fl_ef (.invokevirtual 211) 3 130 1 1 27 1353) [true, true, true, false, true, true], none], [none, some (fl_e0 (.iadd) 1), some (fl_ea (.iload 5) 2 5), none, some (fl_e0 (.iastore) 1), fl_el (fl_e0 (.aload_n 0) 1) [true, true, true, false, true], some (fl_ef (.getfield 59) 3 11 7 2 0 1128), none], [none, some (fl_ex1 (.bipush 102) 2 102), none, some (fl_e0 (.aload_n 0) 1), fl_el (fl_ef (.invokevirtual 211) 3 130 1 1 27 1353) [true, true, true, false, true], none, none, some (fl_e0 (.iadd) 1)], [some (fl_e0 (.aload_n 0) 1), some (fl_ef (.getfield 59) 3 11 7 2 0 1128), none, none, some (fl_ex1 (.bipush 77) 2 77), none, some (fl_ea (.iaload) 1 2), some (fl_e0 (.iastore) 1)], [fl_el (fl_e0 (.aload_n 0) 1) [true, true, true, false, true], some (fl_ef (.getfield 59) 3 11 7 2 0 1128), none, none, some (fl_ex1 (.bipush 76) 2 76), none, some (fl_e0 (.dup2) 1), some (fl_ea (.iaload) 1 2)]], [[some (fl_ex1 (.iconst 1) 1 1), some (fl_e0 (.iadd) 1), some (fl_e0 (.iastore) 1), fl_el (fl_ew (.iinc 4 1) 3 4 0 0 0 0 1 0 []) [true, true, true, false, true], none, none, some (fl_ea (.goto (-104)) 3 94), none], [none, some (fl_e0 (.aload_n 0) 1), fl_el (fl_ef (.invokevirtual 241) 3 141 1 1 43 1357) [true, false, true], none, none, some (fl_e0 (.aload_n 0) 1), fl_el (fl_ef (.invokevirtual 244) 3 142 1 1 75 1400) [true, false, true], none], [none, some (fl_ea (.lload_n 2) 1 2), some (fl_ew (.ldc2_w 248) 3 0 0 0 0 1404 0 (-1) []), none, none, some (fl_e0 (.lxor) 1), some (fl_e0 (.land) 1), some (fl_ea (.lstore 4) 2 4)], [none, some (fl_e0 (.aload_n 0) 1), some (fl_e0 (.iconst 0) 1), some (fl_ef (.putfield 11) 3 11 1 0 0 1122), none, none, fl_el (fl_e0 (.aload_n 0) 1) [true, false, false, false, true], some (fl_ea (.lload 4) 2 4)], [none, fl_el (fl_ef (.invokevirtual 250) 3 143 2 1 59 1405) [false, false, false, false, true], none, none, some (fl_ea (.lload 4) 2 4), none, fl_el (fl_ef (.invokestatic 254) 3 144 1 0 64 1409) [], none], [none, some (fl_e0 (.ireturn) 1)]]]
/-- FaultListsModel.applies()I -/
def fl_c146 : List (List (List (Option fl_E))) := [[[some (fl_e0 (.aload_n 0) 1), some (fl_e0 (.iconst 0) 1), some (fl_ef (.putfield 3) 3 11 0 0 0 1121), none, none, fl_el (fl_e0 (.aload_n 0) 1) [true], fl_el (fl_ef (.invokevirtual 258) 3 145 1 1 123 1344) [], none], [none, some (fl_e0 (.ireturn) 1)]]]
/-- FaultLists$Side.copy(LFaultLists$Side;)V -/
def fl_c147 : List (List (List (Option fl_E))) := [[[some (fl_e0 (.aload_n 0) 1), some (fl_ef (.getfield 14) 3 9 0 2 0 195), none, none, some (fl_ea (.aload_n 1) 1 1), some (fl_ef (.getfield 14) 3 9 0 2 0 195), none, none], [fl_el (fl_ef (.invokevirtual 29) 3 69 2 1 49 766) [true, true], none, none, some (fl_e0 (.aload_n 0) 1), some (fl_ef (.getfield 20) 3 9 1 2 0 198), none, none, some (fl_ea (.aload_n 1) 1 1)], [some (fl_ef (.getfield 20) 3 9 1 2 0 198), none, none, fl_el (fl_ef (.invokevirtual 29) 3 69 2 1 49 766) [true, true], none, none, some (fl_e0 (.aload_n 0) 1), some (fl_ef (.getfield 23) 3 9 2 2 0 201)], [none, none, some (fl_ea (.aload_n 1) 1 1), some (fl_ef (.getfield 23) 3 9 2 2 0 201), none, none, fl_el (fl_ef (.invokevirtual 29) 3 69 2 1 49 766) [true, true], none], [none, some (fl_e0 (.aload_n 0) 1), some (fl_ef (.getfield 26) 3 9 3 2 0 204), none, none, some (fl_ea (.aload_n 1) 1 1), some (fl_ef (.getfield 26) 3 9 3 2 0 204), none], [none, fl_el (fl_ef (.invokevirtual 29) 3 69 2 1 49 766) [], none, none, some (fl_e0 (.return_) 1)]]]
/-- FaultLists$Bench.copy(LFaultLists$Bench;)V -/
def fl_c148 : List (List (List (Option fl_E))) := [[[some (fl_e0 (.aload_n 0) 1), some (fl_ef (.getfield 10) 3 0 0 2 0 216), none, none, some (fl_ea (.aload_n 1) 1 1), some (fl_ef (.getfield 10) 3 0 0 2 0 216), none, none], [fl_el (fl_ef (.invokevirtual 19) 3 147 2 1 41 762) [true, true], none, none, some (fl_e0 (.aload_n 0) 1), some (fl_ef (.getfield 16) 3 0 1 2 0 219), none, none, some (fl_ea (.aload_n 1) 1 1)], [some (fl_ef (.getfield 16) 3 0 1 2 0 219), none, none, fl_el (fl_ef (.invokevirtual 19) 3 147 2 1 41 762) [], none, none, some (fl_e0 (.return_) 1)]]]
/-- FaultLists$Run.copy(LFaultLists$Run;)V -/
def fl_c149 : List (List (List (Option fl_E))) := [[[some (fl_e0 (.aload_n 0) 1), some (fl_ef (.getfield 12) 3 7 0 2 0 229), none, none, some (fl_ea (.aload_n 1) 1 1), some (fl_ef (.getfield 12) 3 7 0 2 0 229), none, none], [fl_el (fl_ef (.invokevirtual 40) 3 70 2 1 36 757) [true, true], none, none, some (fl_e0 (.aload_n 0) 1), some (fl_ef (.getfield 21) 3 7 1 2 0 231), none, none, some (fl_ea (.aload_n 1) 1 1)], [some (fl_ef (.getfield 21) 3 7 1 2 0 231), none, none, fl_el (fl_ef (.invokevirtual 44) 3 148 2 1 32 758) [true, true], none, none, some (fl_e0 (.aload_n 0) 1), some (fl_ef (.getfield 30) 3 7 2 2 0 233)], [none, none, some (fl_ea (.aload_n 1) 1 1), some (fl_ef (.getfield 30) 3 7 2 2 0 233), none, none, fl_el (fl_ef (.invokevirtual 47) 3 69 2 1 49 767) [true, true], none], [none, some (fl_e0 (.aload_n 0) 1), some (fl_ea (.aload_n 1) 1 1), some (fl_ef (.getfield 50) 3 7 3 0 0 235), none, none, some (fl_ef (.putfield 50) 3 7 3 0 0 235), none], [none, fl_el (fl_e0 (.aload_n 0) 1) [true, true], some (fl_ea (.aload_n 1) 1 1), some (fl_ef (.getfield 54) 3 7 4 3 0 237), none, none, some (fl_ef (.putfield 54) 3 7 4 3 0 237), none], [none, fl_el (fl_e0 (.aload_n 0) 1) [true, true], some (fl_ea (.aload_n 1) 1 1), some (fl_ef (.getfield 58) 3 7 5 1 0 239), none, none, some (fl_ef (.putfield 58) 3 7 5 1 0 239), none], [none, fl_el (fl_e0 (.aload_n 0) 1) [true, true], some (fl_ea (.aload_n 1) 1 1), some (fl_ef (.getfield 62) 3 7 6 1 0 241), none, none, some (fl_ef (.putfield 62) 3 7 6 1 0 241), none]], [[none, fl_el (fl_e0 (.aload_n 0) 1) [true, true], some (fl_ea (.aload_n 1) 1 1), some (fl_ef (.getfield 65) 3 7 7 1 0 243), none, none, some (fl_ef (.putfield 65) 3 7 7 1 0 243), none], [none, fl_el (fl_e0 (.aload_n 0) 1) [true, true], some (fl_ef (.getfield 34) 3 7 8 2 0 245), none, none, some (fl_ea (.aload_n 1) 1 1), some (fl_ef (.getfield 34) 3 7 8 2 0 245), none], [none, fl_el (fl_ef (.invokevirtual 47) 3 69 2 1 49 767) [true, true], none, none, some (fl_e0 (.aload_n 0) 1), some (fl_ef (.getfield 37) 3 7 9 2 0 247), none, none], [some (fl_ea (.aload_n 1) 1 1), some (fl_ef (.getfield 37) 3 7 9 2 0 247), none, none, fl_el (fl_ef (.invokevirtual 47) 3 69 2 1 49 767) [], none, none, some (fl_e0 (.return_) 1)]]]
/-- FaultLists.would()I -/
def fl_c150 : List (List (List (Option fl_E))) := [[[some (fl_e0 (.aload_n 0) 1), some (fl_ef (.getfield 41) 3 10 8 2 0 393), none, none, some (fl_e0 (.aload_n 0) 1), some (fl_ef (.getfield 31) 3 10 3 2 0 388), none, none], [fl_el (fl_ef (.invokevirtual 164) 3 149 2 1 39 753) [true], none, none, some (fl_e0 (.aload_n 0) 1), some (fl_e0 (.aload_n 0) 1), some (fl_ef (.getfield 41) 3 10 8 2 0 393), none, none], [fl_el (fl_ef (.invokevirtual 160) 3 127 2 1 138 644) [], none, none, some (fl_e0 (.ireturn) 1)]]]
/-- FaultListsModel.would()I -/
def fl_c151 : List (List (List (Option fl_E))) := [[[some (fl_e0 (.aload_n 0) 1), some (fl_e0 (.iconst 0) 1), some (fl_ef (.putfield 3) 3 11 0 0 0 1121), none, none, fl_el (fl_e0 (.aload_n 0) 1) [true], some (fl_e0 (.iconst 0) 1), some (fl_ex1 (.iconst 3) 1 3)], [some (fl_e0 (.iconst 0) 1), some (fl_ex1 (.bipush 126) 2 126), none, fl_el (fl_ef (.invokevirtual 180) 3 87 5 1 107 1299) [true], none, none, some (fl_e0 (.aload_n 0) 1), fl_el (fl_ef (.invokevirtual 258) 3 145 1 1 123 1344) [true]], [none, none, some (fl_ea (.istore_n 1) 1 1), some (fl_e0 (.aload_n 0) 1), some (fl_ex1 (.iconst 3) 1 3), some (fl_e0 (.iconst 0) 1), some (fl_e0 (.iconst 0) 1), some (fl_ex1 (.bipush 126) 2 126)], [none, fl_el (fl_ef (.invokevirtual 180) 3 87 5 1 107 1299) [false, true], none, none, some (fl_ea (.iload_n 1) 1 1), some (fl_e0 (.ireturn) 1)]]]
/-- FaultLists.begins()I -/
def fl_c152 : List (List (List (Option fl_E))) := [[[some (fl_e0 (.aload_n 0) 1), some (fl_ef (.getfield 31) 3 10 3 2 0 388), none, none, some (fl_ef (.getfield 167) 3 7 3 0 0 236), none, none, some (fl_ea (.istore_n 1) 1 1)], [some (fl_e0 (.aload_n 0) 1), some (fl_ef (.getfield 31) 3 10 3 2 0 388), none, none, fl_el (fl_ef (.invokevirtual 84) 3 28 1 1 23 363) [false, true], none, none, some (fl_ea (.iload_n 1) 1 1)], [some (fl_e0 (.ireturn) 1)]]]
/-- FaultListsModel.begins()I -/
def fl_c153 : List (List (List (Option fl_E))) := [[[some (fl_e0 (.aload_n 0) 1), some (fl_e0 (.iconst 0) 1), some (fl_ef (.putfield 3) 3 11 0 0 0 1121), none, none, fl_el (fl_e0 (.aload_n 0) 1) [true], fl_el (fl_ef (.invokevirtual 211) 3 130 1 1 27 1353) [true], none], [none, some (fl_ea (.istore_n 1) 1 1), some (fl_e0 (.aload_n 0) 1), some (fl_ef (.getfield 59) 3 11 7 2 0 1128), none, none, some (fl_ex1 (.bipush 76) 2 76), none], [some (fl_e0 (.iconst 0) 1), some (fl_e0 (.iastore) 1), fl_el (fl_e0 (.aload_n 0) 1) [true, true], some (fl_ef (.getfield 62) 3 11 8 2 0 1129), none, none, some (fl_e0 (.iconst 0) 1), some (fl_e0 (.lconst 0) 1)], [some (fl_e0 (.lastore) 1), fl_el (fl_ea (.iload_n 1) 1 1) [false, true], some (fl_e0 (.ireturn) 1)]]]
/-- FaultLists.drops(I)I -/
def fl_c154 : List (List (List (Option fl_E))) := [[[some (fl_ea (.iload_n 1) 1 1), some (fl_ea (.ifCond .lt 8) 3 9), none, none, some (fl_ea (.iload_n 1) 1 1), some (fl_ex1 (.iconst 1) 1 1), some (fl_ea (.if_icmp .le 5) 3 11), none], [none, fl_el (fl_ex1 (.iconst (-1)) 1 (-1)) [], some (fl_e0 (.ireturn) 1), some (fl_e0 (.aload_n 0) 1), some (fl_ef (.getfield 31) 3 10 3 2 0 388), none, none, some (fl_ef (.getfield 111) 3 7 4 3 0 238)], [none, none, some (fl_ea (.iload_n 1) 1 1), some (fl_ex1 (.iconst 1) 1 1), some (fl_ea (.if_icmp .ne 7) 3 27), none, none, some (fl_ex1 (.iconst 1) 1 1)], [some (fl_ea (.goto 4) 3 28), none, none, some (fl_e0 (.iconst 0) 1), some (fl_ea (.if_icmp .ne 6) 3 34), none, none, some (fl_ex1 (.bipush (-2)) 2 (-2))], [none, some (fl_e0 (.ireturn) 1), some (fl_e0 (.aload_n 0) 1), some (fl_ef (.getfield 31) 3 10 3 2 0 388), none, none, some (fl_ea (.iload_n 1) 1 1), some (fl_ex1 (.iconst 1) 1 1)], [some (fl_ea (.if_icmp .ne 7) 3 47), none, none, some (fl_ex1 (.iconst 1) 1 1), some (fl_ea (.goto 4) 3 48), none, none, some (fl_e0 (.iconst 0) 1)], [some (fl_ef (.putfield 111) 3 7 4 3 0 238), none, none, fl_el (fl_e0 (.aload_n 0) 1) [true], some (fl_ef (.getfield 31) 3 10 3 2 0 388), none, none, some (fl_ef (.getfield 170) 3 7 6 1 0 242)], [none, none, fl_el (fl_ef (.invokestatic 174) 3 126 1 0 32 743) [], none, none, some (fl_e0 (.ireturn) 1)]]]
/-- FaultListsModel.droppedSet()J -/
def fl_c155 : List (List (List (Option fl_E))) := [[[some (fl_e0 (.lconst 0) 1), some (fl_ea (.lstore_n 1) 1 1), some (fl_e0 (.iconst 0) 1), some (fl_ea (.istore_n 3) 1 3), fl_el (fl_ea (.iload_n 3) 1 3) [true, true, false, true], some (fl_e0 (.aload_n 0) 1), fl_el (fl_ef (.invokevirtual 129) 3 88 1 1 27 1303) [true, true, false, true], none], [none, some (fl_ea (.if_icmp .ge 28) 3 37), none, none, some (fl_ea (.lload_n 1) 1 1), some (fl_e0 (.aload_n 0) 1), some (fl_ef (.getfield 92) 3 11 21 2 0 1142), none], [none, some (fl_ea (.iload_n 3) 1 3), some (fl_ea (.iaload) 1 2), some (fl_ea (.ifCond .lt 9) 3 28), none, none, some (fl_ew (.lconst 1) 1 0 0 0 0 0 0 1 []), some (fl_ea (.iload_n 3) 1 3)], [some (fl_e0 (.lshl) 1), some (fl_ea (.goto 4) 3 29), none, none, some (fl_e0 (.lconst 0) 1), some (fl_e0 (.lor) 1), some (fl_ea (.lstore_n 1) 1 1), some (fl_ew (.iinc 3 1) 3 3 0 0 0 0 1 0 [])], [none, none, some (fl_ea (.goto (-30)) 3 4), none, none, some (fl_ea (.lload_n 1) 1 1), some (fl_e0 (.lreturn) 1)]]]
/-- FaultListsModel.drops(I)I -/
def fl_c156 : List (List (List (Option fl_E))) := [[[some (fl_e0 (.aload_n 0) 1), some (fl_e0 (.iconst 0) 1), some (fl_ef (.putfield 3) 3 11 0 0 0 1121), none, none, fl_el (fl_ea (.iload_n 1) 1 1) [true, true], some (fl_e0 (.i2l) 1), some (fl_e0 (.lconst 0) 1)], [some (fl_ew (.lconst 1) 1 0 0 0 0 0 0 1 []), fl_el (fl_ef (.invokestatic 21) 3 37 3 0 96 1112) [true, true], none, none, some (fl_ea (.ifCond .ne 5) 3 17), none, none, some (fl_ex1 (.iconst (-1)) 1 (-1))], [some (fl_e0 (.ireturn) 1), some (fl_e0 (.aload_n 0) 1), some (fl_ef (.getfield 59) 3 11 7 2 0 1128), none, none, some (fl_ex1 (.bipush 77) 2 77), none, some (fl_ea (.iaload) 1 2)], [some (fl_ea (.iload_n 1) 1 1), some (fl_ea (.if_icmp .ne 6) 3 31), none, none, some (fl_ex1 (.bipush (-2)) 2 (-2)), none, some (fl_e0 (.ireturn) 1), some (fl_e0 (.aload_n 0) 1)], [some (fl_ef (.getfield 59) 3 11 7 2 0 1128), none, none, some (fl_ex1 (.bipush 77) 2 77), none, some (fl_ea (.iload_n 1) 1 1), some (fl_e0 (.iastore) 1), fl_el (fl_e0 (.aload_n 0) 1) [true]], [fl_el (fl_ef (.invokevirtual 241) 3 141 1 1 43 1357) [true], none, none, some (fl_e0 (.aload_n 0) 1), fl_el (fl_ef (.invokevirtual 261) 3 155 1 1 75 1424) [], none, none, fl_el (fl_ef (.invokestatic 254) 3 144 1 0 64 1409) []], [none, none, some (fl_e0 (.ireturn) 1)]]]
/-- FaultLists$Bench.doubtsAt(I)J -/
def fl_c157 : List (List (List (Option fl_E))) := [[[some (fl_e0 (.aload_n 0) 1), some (fl_ef (.getfield 16) 3 0 1 2 0 219), none, none, some (fl_ef (.getfield 31) 3 9 0 2 0 196), none, none, some (fl_ea (.iload_n 1) 1 1)], [fl_el (fl_ef (.invokevirtual 35) 3 105 2 1 33 719) [true, true], none, none, some (fl_e0 (.aload_n 0) 1), some (fl_ef (.getfield 16) 3 0 1 2 0 219), none, none, some (fl_ef (.getfield 41) 3 9 1 2 0 199)], [none, none, some (fl_ea (.iload_n 1) 1 1), fl_el (fl_ef (.invokevirtual 35) 3 105 2 1 33 719) [true, true], none, none, some (fl_e0 (.lor) 1), some (fl_e0 (.aload_n 0) 1)], [some (fl_ef (.getfield 10) 3 0 0 2 0 216), none, none, some (fl_ef (.getfield 31) 3 9 0 2 0 196), none, none, some (fl_ea (.iload_n 1) 1 1), fl_el (fl_ef (.invokevirtual 35) 3 105 2 1 33 719) [true, true]], [none, none, some (fl_e0 (.aload_n 0) 1), some (fl_ef (.getfield 10) 3 0 0 2 0 216), none, none, some (fl_ef (.getfield 41) 3 9 1 2 0 199), none], [none, some (fl_ea (.iload_n 1) 1 1), fl_el (fl_ef (.invokevirtual 35) 3 105 2 1 33 719) [], none, none, some (fl_e0 (.lor) 1), some (fl_e0 (.lxor) 1), some (fl_e0 (.lreturn) 1)]]]
/-- FaultLists$Side.valueAt(II)I -/
def fl_c158 : List (List (List (Option fl_E))) := [[[some (fl_e0 (.aload_n 0) 1), some (fl_ef (.getfield 14) 3 9 0 2 0 195), none, none, some (fl_ea (.iload_n 1) 1 1), fl_el (fl_ef (.invokevirtual 59) 3 105 2 1 33 689) [true, true, true], none, none], [some (fl_ea (.iload_n 2) 1 2), fl_el (fl_ef (.invokestatic 95) 3 120 2 10 48 790) [true, true, true], none, none, some (fl_ea (.ifCond .eq 7) 3 19), none, none, some (fl_ex1 (.iconst 1) 1 1)], [some (fl_ea (.goto 23) 3 39), none, none, some (fl_e0 (.aload_n 0) 1), some (fl_ef (.getfield 20) 3 9 1 2 0 198), none, none, some (fl_ea (.iload_n 1) 1 1)], [fl_el (fl_ef (.invokevirtual 59) 3 105 2 1 33 689) [false, false, true], none, none, some (fl_ea (.iload_n 2) 1 2), fl_el (fl_ef (.invokestatic 95) 3 120 2 10 48 790) [], none, none, some (fl_ea (.ifCond .eq 7) 3 38)], [none, none, some (fl_e0 (.iconst 0) 1), some (fl_ea (.goto 4) 3 39), none, none, some (fl_ex1 (.iconst 2) 1 2), some (fl_e0 (.ireturn) 1)]]]
/-- FaultLists.value(I)I -/
def fl_c159 : List (List (List (Option fl_E))) := [[[some (fl_e0 (.aload_n 0) 1), some (fl_ef (.getfield 31) 3 10 3 2 0 388), none, none, some (fl_ef (.getfield 72) 3 7 0 2 0 230), none, none, some (fl_ea (.iload_n 1) 1 1)], [fl_el (fl_ef (.invokevirtual 125) 3 64 2 1 36 780) [true, true], none, none, some (fl_ea (.ifCond .ne 5) 3 16), none, none, some (fl_ex1 (.iconst (-1)) 1 (-1)), some (fl_e0 (.ireturn) 1)], [some (fl_e0 (.aload_n 0) 1), some (fl_ef (.getfield 31) 3 10 3 2 0 388), none, none, some (fl_ef (.getfield 167) 3 7 3 0 0 236), none, none, some (fl_ea (.ifCond .ne 6) 3 29)], [none, none, some (fl_ex1 (.bipush (-2)) 2 (-2)), none, some (fl_e0 (.ireturn) 1), some (fl_e0 (.aload_n 0) 1), some (fl_e0 (.aload_n 0) 1), some (fl_ef (.getfield 31) 3 10 3 2 0 388)], [none, none, some (fl_ef (.getfield 180) 3 7 1 2 0 232), none, none, some (fl_ea (.iload_n 1) 1 1), fl_el (fl_ef (.invokevirtual 181) 3 118 2 1 32 781) [true, true], none], [none, fl_el (fl_ef (.invokevirtual 185) 3 125 2 1 58 739) [true, true], none, none, some (fl_e0 (.aload_n 0) 1), some (fl_ef (.getfield 18) 3 10 1 2 0 386), none, none], [some (fl_e0 (.aload_n 0) 1), some (fl_ef (.getfield 31) 3 10 3 2 0 388), none, none, some (fl_ef (.getfield 180) 3 7 1 2 0 232), none, none, some (fl_ea (.iload_n 1) 1 1)], [fl_el (fl_ef (.invokevirtual 188) 3 157 2 1 32 782) [true, true], none, none, fl_el (fl_ef (.invokevirtual 91) 3 32 2 1 53 433) [true, true], none, none, some (fl_e0 (.aload_n 0) 1), some (fl_ef (.getfield 31) 3 10 3 2 0 388)]], [[none, none, some (fl_ef (.getfield 180) 3 7 1 2 0 232), none, none, some (fl_ef (.getfield 191) 3 0 0 2 0 218), none, none], [some (fl_ea (.iload_n 1) 1 1), some (fl_e0 (.iconst 0) 1), fl_el (fl_ef (.invokevirtual 194) 3 158 3 1 57 786) [], none, none, some (fl_e0 (.ireturn) 1)]]]
/-- FaultListsModel.otherAt(IZ)J -/
def fl_c160 : List (List (List (Option fl_E))) := [[[some (fl_e0 (.lconst 0) 1), some (fl_ea (.lstore_n 3) 1 3), some (fl_e0 (.aload_n 0) 1), some (fl_ef (.getfield 80) 3 11 17 2 0 1138), none, none, some (fl_ex1 (.bipush 12) 2 12), none], [some (fl_e0 (.aload_n 0) 1), some (fl_ef (.getfield 214) 3 11 16 0 0 1137), none, none, some (fl_ex1 (.iconst 1) 1 1), some (fl_e0 (.isub) 1), some (fl_e0 (.imul) 1), some (fl_ea (.iload_n 1) 1 1)], [some (fl_e0 (.iadd) 1), some (fl_ea (.iaload) 1 2), some (fl_ea (.istore 5) 2 5), none, some (fl_e0 (.iconst 0) 1), some (fl_ea (.istore 6) 2 6), none, fl_el (fl_ea (.iload 6) 2 6) [true, true, true, true, false, true, true]], [none, some (fl_e0 (.aload_n 0) 1), fl_el (fl_ef (.invokevirtual 129) 3 88 1 1 27 1303) [true, true, true, true, false, true, true], none, none, some (fl_ea (.if_icmp .ge 112) 3 141), none, none], [some (fl_e0 (.aload_n 0) 1), some (fl_ef (.getfield 95) 3 11 22 2 0 1143), none, none, some (fl_ex1 (.bipush 12) 2 12), none, some (fl_ea (.iload 6) 2 6), none], [some (fl_e0 (.imul) 1), some (fl_ea (.iload_n 1) 1 1), some (fl_e0 (.iadd) 1), some (fl_ea (.iaload) 1 2), some (fl_ea (.istore 7) 2 7), none, some (fl_e0 (.aload_n 0) 1), some (fl_ef (.getfield 92) 3 11 21 2 0 1142)], [none, none, some (fl_ea (.iload 6) 2 6), none, some (fl_ea (.iaload) 1 2), some (fl_ea (.ifCond .lt 23) 3 76), none, none], [some (fl_e0 (.aload_n 0) 1), some (fl_ef (.getfield 92) 3 11 21 2 0 1142), none, none, some (fl_ea (.iload 6) 2 6), none, some (fl_ea (.iaload) 1 2), some (fl_e0 (.aload_n 0) 1)]], [[some (fl_ef (.getfield 214) 3 11 16 0 0 1137), none, none, some (fl_ex1 (.iconst 1) 1 1), some (fl_e0 (.isub) 1), some (fl_ea (.if_icmp .ge 7) 3 76), none, none], [some (fl_ex1 (.iconst 1) 1 1), some (fl_ea (.goto 4) 3 77), none, none, fl_el (fl_e0 (.iconst 0) 1) [true, true, true, true, false, true, true, true], fl_el (fl_ea (.istore 8) 2 8) [true, true, true, true, false, true, true, true], none, some (fl_ea (.iload 7) 2 7)], [none, some (fl_ea (.iload 5) 2 5), none, some (fl_ea (.if_icmp .eq 28) 3 111), none, none, some (fl_ea (.iload 7) 2 7), none], [some (fl_ex1 (.iconst 2) 1 2), some (fl_ea (.if_icmp .eq 9) 3 98), none, none, some (fl_ea (.iload 5) 2 5), none, some (fl_ex1 (.iconst 2) 1 2), some (fl_ea (.if_icmp .ne 7) 3 102)], [none, none, fl_el (fl_ex1 (.iconst 1) 1 1) [true, true, true, true, false, true, true, false, true], some (fl_ea (.goto 4) 3 103), none, none, some (fl_e0 (.iconst 0) 1), fl_el (fl_ea (.iload_n 2) 1 2) [true, true, true, true, false, true, true, false, true]], [some (fl_ea (.if_icmp .ne 7) 3 111), none, none, some (fl_ex1 (.iconst 1) 1 1), some (fl_ea (.goto 4) 3 112), none, none, fl_el (fl_e0 (.iconst 0) 1) [true, true, true, true, false, true, true, false, true]], [fl_el (fl_ea (.istore 9) 2 9) [true, true, true, true, false, true, true, false, true], none, some (fl_ea (.lload_n 3) 1 3), some (fl_ea (.iload 9) 2 9), none, some (fl_ea (.ifCond .eq 15) 3 132), none, none], [some (fl_ea (.iload 8) 2 8), none, some (fl_ea (.ifCond .ne 10) 3 132), none, none, some (fl_ew (.lconst 1) 1 0 0 0 0 0 0 1 []), some (fl_ea (.iload 6) 2 6), none]], [[some (fl_e0 (.lshl) 1), some (fl_ea (.goto 4) 3 133), none, none, fl_el (fl_e0 (.lconst 0) 1) [true, true, true, false, false, true, true], fl_el (fl_e0 (.lor) 1) [true, true, true, false, false, true, true], some (fl_ea (.lstore_n 3) 1 3), some (fl_ew (.iinc 6 1) 3 6 0 0 0 0 1 0 [])], [none, none, some (fl_ea (.goto (-115)) 3 23), none, none, some (fl_ea (.lload_n 3) 1 3), some (fl_e0 (.lreturn) 1)]]]
/-- FaultListsModel.value(I)I -/
def fl_c161 : List (List (List (Option fl_E))) := [[[some (fl_e0 (.aload_n 0) 1), some (fl_e0 (.iconst 0) 1), some (fl_ef (.putfield 3) 3 11 0 0 0 1121), none, none, fl_el (fl_e0 (.aload_n 0) 1) [true, true], some (fl_ea (.iload_n 1) 1 1), fl_el (fl_ef (.invokevirtual 184) 3 96 2 1 43 1315) [true, true]], [none, none, some (fl_ea (.ifCond .ne 5) 3 15), none, none, some (fl_ex1 (.iconst (-1)) 1 (-1)), some (fl_e0 (.ireturn) 1), some (fl_e0 (.aload_n 0) 1)], [fl_el (fl_ef (.invokevirtual 211) 3 130 1 1 27 1353) [true, true], none, none, some (fl_ea (.ifCond .ne 6) 3 25), none, none, some (fl_ex1 (.bipush (-2)) 2 (-2)), none], [some (fl_e0 (.ireturn) 1), some (fl_e0 (.aload_n 0) 1), fl_el (fl_ef (.invokevirtual 241) 3 141 1 1 43 1357) [true, true], none, none, some (fl_e0 (.aload_n 0) 1), some (fl_e0 (.iconst 0) 1), some (fl_ef (.putfield 11) 3 11 1 0 0 1122)], [none, none, fl_el (fl_e0 (.aload_n 0) 1) [true, true], some (fl_e0 (.aload_n 0) 1), some (fl_ea (.iload_n 1) 1 1), some (fl_e0 (.iconst 0) 1), fl_el (fl_ef (.invokevirtual 264) 3 160 3 1 171 1432) [true, true], none], [none, fl_el (fl_ef (.invokevirtual 250) 3 143 2 1 59 1405) [true, true], none, none, some (fl_e0 (.aload_n 0) 1), some (fl_e0 (.aload_n 0) 1), some (fl_ea (.iload_n 1) 1 1), some (fl_ex1 (.iconst 1) 1 1)], [fl_el (fl_ef (.invokevirtual 264) 3 160 3 1 171 1432) [true, true], none, none, fl_el (fl_ef (.invokevirtual 250) 3 143 2 1 59 1405) [true, true], none, none, some (fl_e0 (.aload_n 0) 1), some (fl_ef (.getfield 80) 3 11 17 2 0 1138)], [none, none, some (fl_ex1 (.bipush 12) 2 12), none, some (fl_e0 (.aload_n 0) 1), some (fl_ef (.getfield 214) 3 11 16 0 0 1137), none, none]], [[some (fl_ex1 (.iconst 1) 1 1), some (fl_e0 (.isub) 1), some (fl_e0 (.imul) 1), some (fl_ea (.iload_n 1) 1 1), some (fl_e0 (.iadd) 1), some (fl_ea (.iaload) 1 2), some (fl_e0 (.ireturn) 1)]]]
/-- FaultLists$Net.isFault(I)Z -/
def fl_c162 : List (List (List (Option fl_E))) := [[[some (fl_ea (.iload_n 1) 1 1), some (fl_ea (.ifCond .lt 15) 3 16), none, none, some (fl_ea (.iload_n 1) 1 1), some (fl_e0 (.aload_n 0) 1), fl_el (fl_ef (.invokevirtual 63) 3 66 1 1 20 678) [], none], [none, some (fl_ea (.if_icmp .ge 7) 3 16), none, none, some (fl_ex1 (.iconst 1) 1 1), some (fl_ea (.goto 4) 3 17), none, none], [fl_el (fl_e0 (.iconst 0) 1) [], some (fl_ef (.ireturn) 1 0 0 3 0 0)]]]
/-- FaultLists.faulty(II)I -/
def fl_c163 : List (List (List (Option fl_E))) := [[[some (fl_e0 (.aload_n 0) 1), some (fl_ef (.getfield 31) 3 10 3 2 0 388), none, none, some (fl_ef (.getfield 72) 3 7 0 2 0 230), none, none, some (fl_ea (.iload_n 1) 1 1)], [fl_el (fl_ef (.invokevirtual 198) 3 162 2 1 36 795) [true, true, true], none, none, some (fl_ea (.ifCond .eq 17) 3 28), none, none, some (fl_e0 (.aload_n 0) 1), some (fl_ef (.getfield 31) 3 10 3 2 0 388)], [none, none, some (fl_ef (.getfield 72) 3 7 0 2 0 230), none, none, some (fl_ea (.iload_n 2) 1 2), fl_el (fl_ef (.invokevirtual 125) 3 64 2 1 36 780) [true, true, true], none], [none, some (fl_ea (.ifCond .ne 5) 3 30), none, none, fl_el (fl_ex1 (.iconst (-1)) 1 (-1)) [], some (fl_e0 (.ireturn) 1), some (fl_e0 (.aload_n 0) 1), some (fl_ef (.getfield 31) 3 10 3 2 0 388)], [none, none, some (fl_ef (.getfield 167) 3 7 3 0 0 236), none, none, some (fl_ea (.ifCond .ne 8) 3 45), none, none], [some (fl_ex1 (.bipush (-2)) 2 (-2)), none, some (fl_ea (.goto 18) 3 60), none, none, some (fl_e0 (.aload_n 0) 1), some (fl_ef (.getfield 31) 3 10 3 2 0 388), none], [none, some (fl_ef (.getfield 180) 3 7 1 2 0 232), none, none, some (fl_ef (.getfield 201) 3 0 1 2 0 221), none, none, some (fl_ea (.iload_n 2) 1 2)], [some (fl_ea (.iload_n 1) 1 1), fl_el (fl_ef (.invokevirtual 194) 3 158 3 1 57 786) [], none, none, some (fl_e0 (.ireturn) 1)]]]
/-- FaultListsModel.isFault(I)Z -/
def fl_c164 : List (List (List (Option fl_E))) := [[[some (fl_ea (.iload_n 1) 1 1), some (fl_e0 (.i2l) 1), some (fl_e0 (.lconst 0) 1), some (fl_e0 (.aload_n 0) 1), fl_el (fl_ef (.invokevirtual 129) 3 88 1 1 27 1303) [], none, none, some (fl_ex1 (.iconst 1) 1 1)], [some (fl_e0 (.isub) 1), some (fl_e0 (.i2l) 1), fl_el (fl_ef (.invokestatic 21) 3 37 3 0 96 1112) [], none, none, some (fl_ef (.ireturn) 1 0 0 3 0 0)]]]
/-- FaultListsModel.faulty(II)I -/
def fl_c165 : List (List (List (Option fl_E))) := [[[some (fl_e0 (.aload_n 0) 1), some (fl_e0 (.iconst 0) 1), some (fl_ef (.putfield 3) 3 11 0 0 0 1121), none, none, fl_el (fl_e0 (.aload_n 0) 1) [true, true, true], some (fl_ea (.iload_n 1) 1 1), fl_el (fl_ef (.invokevirtual 268) 3 164 2 1 43 1440) [true, true, true]], [none, none, some (fl_ea (.ifCond .eq 11) 3 21), none, none, some (fl_e0 (.aload_n 0) 1), some (fl_ea (.iload_n 2) 1 2), fl_el (fl_ef (.invokevirtual 184) 3 96 2 1 43 1315) [true, true, true]], [none, none, some (fl_ea (.ifCond .ne 5) 3 23), none, none, fl_el (fl_ex1 (.iconst (-1)) 1 (-1)) [], some (fl_e0 (.ireturn) 1), some (fl_e0 (.aload_n 0) 1)], [fl_el (fl_ef (.invokevirtual 211) 3 130 1 1 27 1353) [true, true, true], none, none, some (fl_ea (.ifCond .ne 6) 3 33), none, none, some (fl_ex1 (.bipush (-2)) 2 (-2)), none], [some (fl_e0 (.ireturn) 1), some (fl_e0 (.aload_n 0) 1), fl_el (fl_ef (.invokevirtual 241) 3 141 1 1 43 1357) [true, true, true], none, none, some (fl_e0 (.aload_n 0) 1), some (fl_ef (.getfield 95) 3 11 22 2 0 1143), none], [none, some (fl_ex1 (.bipush 12) 2 12), none, some (fl_ea (.iload_n 1) 1 1), some (fl_e0 (.imul) 1), some (fl_ea (.iload_n 2) 1 2), some (fl_e0 (.iadd) 1), some (fl_ea (.iaload) 1 2)], [some (fl_e0 (.ireturn) 1)]]]
/-- FaultLists$Bench.heldOtherwise(I)J -/
def fl_c166 : List (List (List (Option fl_E))) := [[[some (fl_e0 (.aload_n 0) 1), some (fl_ef (.getfield 16) 3 0 1 2 0 219), none, none, some (fl_ef (.getfield 48) 3 9 2 2 0 203), none, none, some (fl_ea (.iload_n 1) 1 1)], [fl_el (fl_ef (.invokevirtual 35) 3 105 2 1 33 719) [true, true], none, none, some (fl_e0 (.aload_n 0) 1), some (fl_ef (.getfield 10) 3 0 0 2 0 216), none, none, some (fl_ef (.getfield 48) 3 9 2 2 0 203)], [none, none, some (fl_ea (.iload_n 1) 1 1), fl_el (fl_ef (.invokevirtual 35) 3 105 2 1 33 719) [true, true], none, none, some (fl_e0 (.lxor) 1), some (fl_e0 (.aload_n 0) 1)], [some (fl_ef (.getfield 16) 3 0 1 2 0 219), none, none, some (fl_ef (.getfield 51) 3 9 3 2 0 206), none, none, some (fl_ea (.iload_n 1) 1 1), fl_el (fl_ef (.invokevirtual 35) 3 105 2 1 33 719) [true, true]], [none, none, some (fl_e0 (.aload_n 0) 1), some (fl_ef (.getfield 10) 3 0 0 2 0 216), none, none, some (fl_ef (.getfield 51) 3 9 3 2 0 206), none], [none, some (fl_ea (.iload_n 1) 1 1), fl_el (fl_ef (.invokevirtual 35) 3 105 2 1 33 719) [], none, none, some (fl_e0 (.lxor) 1), some (fl_e0 (.lor) 1), some (fl_e0 (.lreturn) 1)]]]
/-- FaultLists$Side.heldAt(II)I -/
def fl_c167 : List (List (List (Option fl_E))) := [[[some (fl_e0 (.aload_n 0) 1), some (fl_ef (.getfield 23) 3 9 2 2 0 201), none, none, some (fl_ea (.iload_n 1) 1 1), fl_el (fl_ef (.invokevirtual 59) 3 105 2 1 33 689) [true, true, true], none, none], [some (fl_ea (.iload_n 2) 1 2), fl_el (fl_ef (.invokestatic 95) 3 120 2 10 48 790) [true, true, true], none, none, some (fl_ea (.ifCond .eq 7) 3 19), none, none, some (fl_ex1 (.iconst 1) 1 1)], [some (fl_ea (.goto 23) 3 39), none, none, some (fl_e0 (.aload_n 0) 1), some (fl_ef (.getfield 26) 3 9 3 2 0 204), none, none, some (fl_ea (.iload_n 1) 1 1)], [fl_el (fl_ef (.invokevirtual 59) 3 105 2 1 33 689) [false, false, true], none, none, some (fl_ea (.iload_n 2) 1 2), fl_el (fl_ef (.invokestatic 95) 3 120 2 10 48 790) [], none, none, some (fl_ea (.ifCond .eq 7) 3 38)], [none, none, some (fl_e0 (.iconst 0) 1), some (fl_ea (.goto 4) 3 39), none, none, some (fl_ex1 (.iconst 2) 1 2), some (fl_e0 (.ireturn) 1)]]]
/-- FaultLists.holds(I)I -/
def fl_c168 : List (List (List (Option fl_E))) := [[[some (fl_e0 (.aload_n 0) 1), some (fl_ef (.getfield 31) 3 10 3 2 0 388), none, none, some (fl_ef (.getfield 72) 3 7 0 2 0 230), none, none, some (fl_ea (.iload_n 1) 1 1)], [fl_el (fl_ef (.invokevirtual 204) 3 65 2 1 36 803) [true, true], none, none, some (fl_ea (.ifCond .ne 5) 3 16), none, none, some (fl_ex1 (.iconst (-1)) 1 (-1)), some (fl_e0 (.ireturn) 1)], [some (fl_e0 (.aload_n 0) 1), some (fl_e0 (.aload_n 0) 1), some (fl_ef (.getfield 31) 3 10 3 2 0 388), none, none, some (fl_ef (.getfield 180) 3 7 1 2 0 232), none, none], [some (fl_ea (.iload_n 1) 1 1), fl_el (fl_ef (.invokevirtual 207) 3 166 2 1 32 804) [true, true], none, none, fl_el (fl_ef (.invokevirtual 185) 3 125 2 1 58 739) [true, true], none, none, some (fl_e0 (.aload_n 0) 1)], [some (fl_ef (.getfield 31) 3 10 3 2 0 388), none, none, some (fl_ef (.getfield 180) 3 7 1 2 0 232), none, none, some (fl_ef (.getfield 191) 3 0 0 2 0 218), none], [none, some (fl_ea (.iload_n 1) 1 1), some (fl_e0 (.iconst 0) 1), fl_el (fl_ef (.invokevirtual 210) 3 167 3 1 57 808) [], none, none, some (fl_e0 (.ireturn) 1)]]]
/-- FaultListsModel.holds(I)I -/
def fl_c169 : List (List (List (Option fl_E))) := [[[some (fl_e0 (.aload_n 0) 1), some (fl_e0 (.iconst 0) 1), some (fl_ef (.putfield 3) 3 11 0 0 0 1121), none, none, fl_el (fl_e0 (.aload_n 0) 1) [true, true], some (fl_ea (.iload_n 1) 1 1), fl_el (fl_ef (.invokevirtual 184) 3 96 2 1 43 1315) [true, true]], [none, none, some (fl_ea (.ifCond .eq 11) 3 21), none, none, some (fl_e0 (.aload_n 0) 1), some (fl_ea (.iload_n 1) 1 1), fl_el (fl_ef (.invokevirtual 132) 3 97 2 1 43 1324) [true, true]], [none, none, some (fl_ea (.ifCond .ne 5) 3 23), none, none, fl_el (fl_ex1 (.iconst (-1)) 1 (-1)) [], some (fl_e0 (.ireturn) 1), some (fl_e0 (.aload_n 0) 1)], [fl_el (fl_ef (.invokevirtual 241) 3 141 1 1 43 1357) [true, true], none, none, some (fl_e0 (.lconst 0) 1), some (fl_ea (.lstore_n 2) 1 2), some (fl_e0 (.iconst 0) 1), some (fl_ea (.istore 4) 2 4), none], [fl_el (fl_ea (.iload 4) 2 4) [true, true, true, false, true], none, some (fl_e0 (.aload_n 0) 1), fl_el (fl_ef (.invokevirtual 129) 3 88 1 1 27 1303) [true, true, true, false, true], none, none, some (fl_ea (.if_icmp .ge 51) 3 89), none], [none, some (fl_ea (.lload_n 2) 1 2), some (fl_e0 (.aload_n 0) 1), some (fl_ef (.getfield 92) 3 11 21 2 0 1142), none, none, some (fl_ea (.iload 4) 2 4), none], [some (fl_ea (.iaload) 1 2), some (fl_ea (.ifCond .ge 31) 3 80), none, none, some (fl_e0 (.aload_n 0) 1), some (fl_ef (.getfield 98) 3 11 23 2 0 1144), none, none], [some (fl_ex1 (.bipush 12) 2 12), none, some (fl_ea (.iload 4) 2 4), none, some (fl_e0 (.imul) 1), some (fl_ea (.iload_n 1) 1 1), some (fl_e0 (.iadd) 1), some (fl_ea (.iaload) 1 2)]], [[some (fl_e0 (.aload_n 0) 1), some (fl_ef (.getfield 83) 3 11 18 2 0 1139), none, none, some (fl_ea (.iload_n 1) 1 1), some (fl_ea (.iaload) 1 2), some (fl_ea (.if_icmp .eq 10) 3 80), none], [none, some (fl_ew (.lconst 1) 1 0 0 0 0 0 0 1 []), some (fl_ea (.iload 4) 2 4), none, some (fl_e0 (.lshl) 1), some (fl_ea (.goto 4) 3 81), none, none], [some (fl_e0 (.lconst 0) 1), some (fl_e0 (.lor) 1), some (fl_ea (.lstore_n 2) 1 2), some (fl_ew (.iinc 4 1) 3 4 0 0 0 0 1 0 []), none, none, some (fl_ea (.goto (-54)) 3 32), none], [none, some (fl_e0 (.aload_n 0) 1), some (fl_e0 (.iconst 0) 1), some (fl_ef (.putfield 11) 3 11 1 0 0 1122), none, none, fl_el (fl_e0 (.aload_n 0) 1) [true, true, true], some (fl_ea (.lload_n 2) 1 2)], [fl_el (fl_ef (.invokevirtual 250) 3 143 2 1 59 1405) [true, true], none, none, some (fl_e0 (.aload_n 0) 1), some (fl_ef (.getfield 83) 3 11 18 2 0 1139), none, none, some (fl_ea (.iload_n 1) 1 1)], [some (fl_ea (.iaload) 1 2), some (fl_e0 (.ireturn) 1)]]]
/-- FaultLists.detected()I -/
def fl_c170 : List (List (List (Option fl_E))) := [[[some (fl_e0 (.aload_n 0) 1), some (fl_e0 (.aload_n 0) 1), some (fl_ef (.getfield 31) 3 10 3 2 0 388), none, none, some (fl_ef (.getfield 213) 3 7 5 1 0 240), none, none], [fl_el (fl_ef (.invokevirtual 185) 3 125 2 1 58 739) [true], none, none, some (fl_e0 (.aload_n 0) 1), some (fl_ef (.getfield 18) 3 10 1 2 0 386), none, none, some (fl_e0 (.aload_n 0) 1)], [some (fl_ef (.getfield 31) 3 10 3 2 0 388), none, none, some (fl_ef (.getfield 170) 3 7 6 1 0 242), none, none, fl_el (fl_ef (.invokevirtual 91) 3 32 2 1 53 433) [true], none], [none, some (fl_e0 (.aload_n 0) 1), some (fl_ef (.getfield 31) 3 10 3 2 0 388), none, none, some (fl_ef (.getfield 213) 3 7 5 1 0 240), none, none], [fl_el (fl_ef (.invokestatic 174) 3 126 1 0 32 743) [], none, none, some (fl_e0 (.ireturn) 1)]]]
/-- FaultListsModel.detected()I -/
def fl_c171 : List (List (List (Option fl_E))) := [[[some (fl_e0 (.aload_n 0) 1), some (fl_e0 (.iconst 0) 1), some (fl_ef (.putfield 3) 3 11 0 0 0 1121), none, none, fl_el (fl_e0 (.aload_n 0) 1) [true], fl_el (fl_ef (.invokevirtual 241) 3 141 1 1 43 1357) [true], none], [none, some (fl_e0 (.aload_n 0) 1), some (fl_e0 (.iconst 0) 1), some (fl_ef (.putfield 11) 3 11 1 0 0 1122), none, none, fl_el (fl_e0 (.aload_n 0) 1) [true], some (fl_e0 (.aload_n 0) 1)], [fl_el (fl_ef (.invokevirtual 244) 3 142 1 1 75 1400) [true], none, none, fl_el (fl_ef (.invokevirtual 250) 3 143 2 1 59 1405) [true], none, none, some (fl_e0 (.aload_n 0) 1), some (fl_e0 (.aload_n 0) 1)], [fl_el (fl_ef (.invokevirtual 261) 3 155 1 1 75 1424) [true], none, none, fl_el (fl_ef (.invokevirtual 250) 3 143 2 1 59 1405) [true], none, none, some (fl_e0 (.aload_n 0) 1), fl_el (fl_ef (.invokevirtual 244) 3 142 1 1 75 1400) []], [none, none, fl_el (fl_ef (.invokestatic 254) 3 144 1 0 64 1409) [], none, none, some (fl_e0 (.ireturn) 1)]]]
/-- FaultLists.when(I)I -/
def fl_c172 : List (List (List (Option fl_E))) := [[[some (fl_e0 (.aload_n 0) 1), some (fl_ef (.getfield 31) 3 10 3 2 0 388), none, none, some (fl_ef (.getfield 72) 3 7 0 2 0 230), none, none, some (fl_ea (.iload_n 1) 1 1)], [fl_el (fl_ef (.invokevirtual 198) 3 162 2 1 36 795) [true, true], none, none, some (fl_ea (.ifCond .ne 5) 3 16), none, none, some (fl_ex1 (.iconst (-1)) 1 (-1)), some (fl_e0 (.ireturn) 1)], [some (fl_e0 (.aload_n 0) 1), some (fl_ef (.getfield 31) 3 10 3 2 0 388), none, none, some (fl_ef (.getfield 213) 3 7 5 1 0 240), none, none, some (fl_ea (.iload_n 1) 1 1)], [fl_el (fl_ef (.invokestatic 216) 3 120 2 0 48 820) [true, true], none, none, some (fl_ea (.ifCond .ne 6) 3 33), none, none, some (fl_ex1 (.bipush (-2)) 2 (-2)), none], [some (fl_e0 (.ireturn) 1), some (fl_e0 (.aload_n 0) 1), some (fl_e0 (.aload_n 0) 1), some (fl_ef (.getfield 31) 3 10 3 2 0 388), none, none, some (fl_ef (.getfield 220) 3 7 9 2 0 248), none], [none, some (fl_ea (.iload_n 1) 1 1), fl_el (fl_ef (.invokevirtual 223) 3 105 2 1 33 821) [true, true], none, none, fl_el (fl_ef (.invokevirtual 185) 3 125 2 1 58 739) [true, true], none, none], [some (fl_e0 (.aload_n 0) 1), some (fl_ef (.getfield 31) 3 10 3 2 0 388), none, none, some (fl_ef (.getfield 226) 3 7 8 2 0 246), none, none, some (fl_ea (.iload_n 1) 1 1)], [fl_el (fl_ef (.invokevirtual 135) 3 24 2 1 33 822) [], none, none, some (fl_e0 (.ireturn) 1)]]]
/-- FaultListsModel.when(I)I -/
def fl_c173 : List (List (List (Option fl_E))) := [[[some (fl_e0 (.aload_n 0) 1), some (fl_e0 (.iconst 0) 1), some (fl_ef (.putfield 3) 3 11 0 0 0 1121), none, none, fl_el (fl_e0 (.aload_n 0) 1) [true, true], some (fl_ea (.iload_n 1) 1 1), fl_el (fl_ef (.invokevirtual 268) 3 164 2 1 43 1440) [true, true]], [none, none, some (fl_ea (.ifCond .ne 5) 3 15), none, none, some (fl_ex1 (.iconst (-1)) 1 (-1)), some (fl_e0 (.ireturn) 1), some (fl_e0 (.aload_n 0) 1)], [fl_el (fl_ef (.invokevirtual 241) 3 141 1 1 43 1357) [true, true], none, none, some (fl_e0 (.aload_n 0) 1), some (fl_ef (.getfield 86) 3 11 19 2 0 1140), none, none, some (fl_ea (.iload_n 1) 1 1)], [some (fl_ea (.iaload) 1 2), some (fl_ea (.ifCond .ge 6) 3 31), none, none, some (fl_ex1 (.bipush (-2)) 2 (-2)), none, some (fl_e0 (.ireturn) 1), some (fl_e0 (.aload_n 0) 1)], [some (fl_e0 (.iconst 0) 1), some (fl_ef (.putfield 11) 3 11 1 0 0 1122), none, none, fl_el (fl_e0 (.aload_n 0) 1) [true, true], some (fl_e0 (.aload_n 0) 1), some (fl_ef (.getfield 89) 3 11 20 2 0 1141), none], [none, some (fl_ea (.iload_n 1) 1 1), some (fl_ea (.iaload) 1 2), some (fl_e0 (.i2l) 1), fl_el (fl_ef (.invokevirtual 250) 3 143 2 1 59 1405) [true, true], none, none, some (fl_e0 (.aload_n 0) 1)], [some (fl_ef (.getfield 86) 3 11 19 2 0 1140), none, none, some (fl_ea (.iload_n 1) 1 1), some (fl_ea (.iaload) 1 2), some (fl_e0 (.ireturn) 1)]]]
/-- FaultLists.sample(II)I -/
def fl_c174 : List (List (List (Option fl_E))) := [[[some (fl_ea (.iload_n 1) 1 1), some (fl_ex1 (.iconst 1) 1 1), some (fl_ea (.if_icmp .lt 18) 3 20), none, none, some (fl_ea (.iload_n 1) 1 1), some (fl_ex1 (.bipush 8) 2 8), none], [some (fl_ea (.if_icmp .gt 12) 3 20), none, none, some (fl_ea (.iload_n 2) 1 2), some (fl_ea (.ifCond .lt 8) 3 20), none, none, some (fl_ea (.iload_n 2) 1 2)], [some (fl_ea (.iload_n 1) 1 1), some (fl_ea (.if_icmp .lt 5) 3 22), none, none, fl_el (fl_ex1 (.iconst (-1)) 1 (-1)) [], some (fl_e0 (.ireturn) 1), some (fl_e0 (.iconst 0) 1), some (fl_ea (.istore_n 3) 1 3)], [some (fl_e0 (.iconst 0) 1), some (fl_ea (.istore 4) 2 4), none, some (fl_ea (.iload_n 2) 1 2), some (fl_ea (.istore 5) 2 5), none, fl_el (fl_ea (.iload 5) 2 5) [true, true, false, true, true, true], none], [some (fl_e0 (.aload_n 0) 1), some (fl_ef (.getfield 31) 3 10 3 2 0 388), none, none, some (fl_ef (.getfield 72) 3 7 0 2 0 230), none, none, fl_el (fl_ef (.invokevirtual 229) 3 66 1 1 20 827) [true, true, false, true, true, true]], [none, none, some (fl_ea (.if_icmp .ge 38) 3 80), none, none, some (fl_ew (.iinc 4 1) 3 4 0 0 0 0 1 0 []), none, none], [some (fl_ea (.iload_n 3) 1 3), some (fl_e0 (.aload_n 0) 1), some (fl_ef (.getfield 31) 3 10 3 2 0 388), none, none, some (fl_ef (.getfield 213) 3 7 5 1 0 240), none, none], [some (fl_ea (.iload 5) 2 5), none, fl_el (fl_ef (.invokestatic 216) 3 120 2 0 48 820) [true, true, false, false, true, true], none, none, some (fl_ea (.ifCond .eq 7) 3 68), none, none]], [[some (fl_ex1 (.iconst 1) 1 1), some (fl_ea (.goto 4) 3 69), none, none, some (fl_e0 (.iconst 0) 1), some (fl_e0 (.iadd) 1), some (fl_ea (.istore_n 3) 1 3), some (fl_ea (.iload 5) 2 5)], [none, some (fl_ea (.iload_n 1) 1 1), some (fl_e0 (.iadd) 1), some (fl_ea (.istore 5) 2 5), none, some (fl_ea (.goto (-47)) 3 30), none, none], [some (fl_ea (.iload 4) 2 4), none, some (fl_ea (.ifCond .ne 6) 3 88), none, none, some (fl_ex1 (.bipush (-2)) 2 (-2)), none, some (fl_e0 (.ireturn) 1)], [some (fl_ea (.iload 4) 2 4), none, some (fl_ea (.istore 5) 2 5), none, fl_el (fl_ea (.iload 5) 2 5) [true, false, false, true, true, true], none, some (fl_ex1 (.iconst 1) 1 1), some (fl_ea (.if_icmp .le 36) 3 131)], [none, none, some (fl_ea (.iload_n 3) 1 3), some (fl_ea (.iload 5) 2 5), none, some (fl_e0 (.irem) 1), some (fl_ea (.ifCond .ne 23) 3 125), none], [none, some (fl_ea (.iload 4) 2 4), none, some (fl_ea (.iload 5) 2 5), none, some (fl_e0 (.irem) 1), some (fl_ea (.ifCond .ne 15) 3 125), none], [none, some (fl_ea (.iload_n 3) 1 3), some (fl_ea (.iload 5) 2 5), none, some (fl_e0 (.idiv) 1), some (fl_ea (.istore_n 3) 1 3), some (fl_ea (.iload 4) 2 4), none], [some (fl_ea (.iload 5) 2 5), none, some (fl_e0 (.idiv) 1), some (fl_ea (.istore 4) 2 4), none, fl_el (fl_ew (.iinc 5 (-1)) 3 5 0 0 0 0 (-1) 0 []) [true, false, false, true, true, true], none, none]], [[some (fl_ea (.goto (-36)) 3 92), none, none, some (fl_e0 (.aload_n 0) 1), some (fl_ea (.iload_n 3) 1 3), some (fl_e0 (.i2l) 1), fl_el (fl_ef (.invokevirtual 185) 3 125 2 1 58 739) [true, false, false, false, true], none], [none, some (fl_e0 (.aload_n 0) 1), some (fl_ef (.getfield 18) 3 10 1 2 0 386), none, none, some (fl_ea (.iload 4) 2 4), none, some (fl_e0 (.i2l) 1)], [fl_el (fl_ef (.invokevirtual 91) 3 32 2 1 53 433) [], none, none, some (fl_e0 (.iconst 0) 1), some (fl_e0 (.ireturn) 1)]]]
/-- FaultListsModel.common(II)I -/
def fl_c175 : List (List (List (Option fl_E))) := [[[some (fl_ea (.iload_n 1) 1 1), some (fl_ea (.ifCond .ne 7) 3 8), none, none, some (fl_e0 (.iload_n 0) 1), some (fl_ea (.goto 10) 3 15), none, none], [some (fl_ea (.iload_n 1) 1 1), some (fl_e0 (.iload_n 0) 1), some (fl_ea (.iload_n 1) 1 1), some (fl_e0 (.irem) 1), fl_el (fl_ef (.invokestatic 271) 3 9999 2 0 0 1461) [], none, none, some (fl_e0 (.ireturn) 1)]]]
/-- FaultListsModel.common(II)I -/
def fl_c176 : List (List (List (Option fl_E))) := [[[some (fl_ea (.iload_n 1) 1 1), some (fl_ea (.ifCond .ne 7) 3 8), none, none, some (fl_e0 (.iload_n 0) 1), some (fl_ea (.goto 10) 3 15), none, none], [some (fl_ea (.iload_n 1) 1 1), some (fl_e0 (.iload_n 0) 1), some (fl_ea (.iload_n 1) 1 1), some (fl_e0 (.irem) 1), fl_el (fl_ef (.invokestatic 271) 3 175 2 0 32 1461) [], none, none, some (fl_e0 (.ireturn) 1)]]]
/-- FaultListsModel.common(II)I -/
def fl_c177 : List (List (List (Option fl_E))) := [[[some (fl_ea (.iload_n 1) 1 1), some (fl_ea (.ifCond .ne 7) 3 8), none, none, some (fl_e0 (.iload_n 0) 1), some (fl_ea (.goto 10) 3 15), none, none], [some (fl_ea (.iload_n 1) 1 1), some (fl_e0 (.iload_n 0) 1), some (fl_ea (.iload_n 1) 1 1), some (fl_e0 (.irem) 1), fl_el (fl_ef (.invokestatic 271) 3 176 2 0 32 1461) [], none, none, some (fl_e0 (.ireturn) 1)]]]
/-- FaultListsModel.common(II)I -/
def fl_c178 : List (List (List (Option fl_E))) := [[[some (fl_ea (.iload_n 1) 1 1), some (fl_ea (.ifCond .ne 7) 3 8), none, none, some (fl_e0 (.iload_n 0) 1), some (fl_ea (.goto 10) 3 15), none, none], [some (fl_ea (.iload_n 1) 1 1), some (fl_e0 (.iload_n 0) 1), some (fl_ea (.iload_n 1) 1 1), some (fl_e0 (.irem) 1), fl_el (fl_ef (.invokestatic 271) 3 177 2 0 32 1461) [], none, none, some (fl_e0 (.ireturn) 1)]]]
/-- FaultListsModel.common(II)I -/
def fl_c179 : List (List (List (Option fl_E))) := [[[some (fl_ea (.iload_n 1) 1 1), some (fl_ea (.ifCond .ne 7) 3 8), none, none, some (fl_e0 (.iload_n 0) 1), some (fl_ea (.goto 10) 3 15), none, none], [some (fl_ea (.iload_n 1) 1 1), some (fl_e0 (.iload_n 0) 1), some (fl_ea (.iload_n 1) 1 1), some (fl_e0 (.irem) 1), fl_el (fl_ef (.invokestatic 271) 3 178 2 0 32 1461) [], none, none, some (fl_e0 (.ireturn) 1)]]]
/-- FaultListsModel.common(II)I -/
def fl_c180 : List (List (List (Option fl_E))) := [[[some (fl_ea (.iload_n 1) 1 1), some (fl_ea (.ifCond .ne 7) 3 8), none, none, some (fl_e0 (.iload_n 0) 1), some (fl_ea (.goto 10) 3 15), none, none], [some (fl_ea (.iload_n 1) 1 1), some (fl_e0 (.iload_n 0) 1), some (fl_ea (.iload_n 1) 1 1), some (fl_e0 (.irem) 1), fl_el (fl_ef (.invokestatic 271) 3 179 2 0 32 1461) [], none, none, some (fl_e0 (.ireturn) 1)]]]
/-- FaultListsModel.common(II)I -/
def fl_c181 : List (List (List (Option fl_E))) := [[[some (fl_ea (.iload_n 1) 1 1), some (fl_ea (.ifCond .ne 7) 3 8), none, none, some (fl_e0 (.iload_n 0) 1), some (fl_ea (.goto 10) 3 15), none, none], [some (fl_ea (.iload_n 1) 1 1), some (fl_e0 (.iload_n 0) 1), some (fl_ea (.iload_n 1) 1 1), some (fl_e0 (.irem) 1), fl_el (fl_ef (.invokestatic 271) 3 180 2 0 32 1461) [], none, none, some (fl_e0 (.ireturn) 1)]]]
/-- FaultListsModel.common(II)I -/
def fl_c182 : List (List (List (Option fl_E))) := [[[some (fl_ea (.iload_n 1) 1 1), some (fl_ea (.ifCond .ne 7) 3 8), none, none, some (fl_e0 (.iload_n 0) 1), some (fl_ea (.goto 10) 3 15), none, none], [some (fl_ea (.iload_n 1) 1 1), some (fl_e0 (.iload_n 0) 1), some (fl_ea (.iload_n 1) 1 1), some (fl_e0 (.irem) 1), fl_el (fl_ef (.invokestatic 271) 3 181 2 0 32 1461) [], none, none, some (fl_e0 (.ireturn) 1)]]]
/-- FaultListsModel.common(II)I -/
def fl_c183 : List (List (List (Option fl_E))) := [[[some (fl_ea (.iload_n 1) 1 1), some (fl_ea (.ifCond .ne 7) 3 8), none, none, some (fl_e0 (.iload_n 0) 1), some (fl_ea (.goto 10) 3 15), none, none], [some (fl_ea (.iload_n 1) 1 1), some (fl_e0 (.iload_n 0) 1), some (fl_ea (.iload_n 1) 1 1), some (fl_e0 (.irem) 1), fl_el (fl_ef (.invokestatic 271) 3 182 2 0 32 1461) [], none, none, some (fl_e0 (.ireturn) 1)]]]
/-- FaultListsModel.common(II)I -/
def fl_c184 : List (List (List (Option fl_E))) := [[[some (fl_ea (.iload_n 1) 1 1), some (fl_ea (.ifCond .ne 7) 3 8), none, none, some (fl_e0 (.iload_n 0) 1), some (fl_ea (.goto 10) 3 15), none, none], [some (fl_ea (.iload_n 1) 1 1), some (fl_e0 (.iload_n 0) 1), some (fl_ea (.iload_n 1) 1 1), some (fl_e0 (.irem) 1), fl_el (fl_ef (.invokestatic 271) 3 183 2 0 32 1461) [], none, none, some (fl_e0 (.ireturn) 1)]]]
/-- FaultListsModel.common(II)I -/
def fl_c185 : List (List (List (Option fl_E))) := [[[some (fl_ea (.iload_n 1) 1 1), some (fl_ea (.ifCond .ne 7) 3 8), none, none, some (fl_e0 (.iload_n 0) 1), some (fl_ea (.goto 10) 3 15), none, none], [some (fl_ea (.iload_n 1) 1 1), some (fl_e0 (.iload_n 0) 1), some (fl_ea (.iload_n 1) 1 1), some (fl_e0 (.irem) 1), fl_el (fl_ef (.invokestatic 271) 3 184 2 0 32 1461) [], none, none, some (fl_e0 (.ireturn) 1)]]]
/-- FaultListsModel.common(II)I -/
def fl_c186 : List (List (List (Option fl_E))) := [[[some (fl_ea (.iload_n 1) 1 1), some (fl_ea (.ifCond .ne 7) 3 8), none, none, some (fl_e0 (.iload_n 0) 1), some (fl_ea (.goto 10) 3 15), none, none], [some (fl_ea (.iload_n 1) 1 1), some (fl_e0 (.iload_n 0) 1), some (fl_ea (.iload_n 1) 1 1), some (fl_e0 (.irem) 1), fl_el (fl_ef (.invokestatic 271) 3 185 2 0 32 1461) [], none, none, some (fl_e0 (.ireturn) 1)]]]
/-- FaultListsModel.common(II)I -/
def fl_c187 : List (List (List (Option fl_E))) := [[[some (fl_ea (.iload_n 1) 1 1), some (fl_ea (.ifCond .ne 7) 3 8), none, none, some (fl_e0 (.iload_n 0) 1), some (fl_ea (.goto 10) 3 15), none, none], [some (fl_ea (.iload_n 1) 1 1), some (fl_e0 (.iload_n 0) 1), some (fl_ea (.iload_n 1) 1 1), some (fl_e0 (.irem) 1), fl_el (fl_ef (.invokestatic 271) 3 186 2 0 32 1461) [], none, none, some (fl_e0 (.ireturn) 1)]]]
/-- FaultListsModel.sample(II)I -/
def fl_c188 : List (List (List (Option fl_E))) := [[[some (fl_e0 (.aload_n 0) 1), some (fl_e0 (.iconst 0) 1), some (fl_ef (.putfield 3) 3 11 0 0 0 1121), none, none, fl_el (fl_ea (.iload_n 1) 1 1) [true, true, true], some (fl_e0 (.i2l) 1), some (fl_ew (.lconst 1) 1 0 0 0 0 0 0 1 [])], [some (fl_ew (.ldc2_w 274) 3 0 0 0 0 1460 0 8 []), none, none, fl_el (fl_ef (.invokestatic 21) 3 37 3 0 96 1112) [true, true, true], none, none, some (fl_ea (.ifCond .eq 16) 3 30), none], [none, some (fl_ea (.iload_n 2) 1 2), some (fl_e0 (.i2l) 1), some (fl_e0 (.lconst 0) 1), some (fl_ea (.iload_n 1) 1 1), some (fl_ex1 (.iconst 1) 1 1), some (fl_e0 (.isub) 1), some (fl_e0 (.i2l) 1)], [fl_el (fl_ef (.invokestatic 21) 3 37 3 0 96 1112) [true, true, true], none, none, some (fl_ea (.ifCond .ne 5) 3 32), none, none, fl_el (fl_ex1 (.iconst (-1)) 1 (-1)) [], some (fl_e0 (.ireturn) 1)], [some (fl_e0 (.aload_n 0) 1), fl_el (fl_ef (.invokevirtual 241) 3 141 1 1 43 1357) [true, true, true], none, none, some (fl_e0 (.iconst 0) 1), some (fl_ea (.istore_n 3) 1 3), some (fl_e0 (.iconst 0) 1), some (fl_ea (.istore 4) 2 4)], [none, some (fl_ea (.iload_n 2) 1 2), some (fl_ea (.istore 5) 2 5), none, fl_el (fl_ea (.iload 5) 2 5) [true, true, false, true, true, true], none, some (fl_e0 (.aload_n 0) 1), fl_el (fl_ef (.invokevirtual 129) 3 88 1 1 27 1303) [true, true, false, true, true, true]], [none, none, some (fl_ea (.if_icmp .ge 38) 3 88), none, none, some (fl_ew (.iinc 3 1) 3 3 0 0 0 0 1 0 []), none, none], [some (fl_ea (.iload 4) 2 4), none, some (fl_e0 (.aload_n 0) 1), some (fl_ef (.getfield 86) 3 11 19 2 0 1140), none, none, some (fl_ea (.iload 5) 2 5), none]], [[some (fl_ea (.iaload) 1 2), some (fl_ea (.ifCond .lt 7) 3 72), none, none, some (fl_ex1 (.iconst 1) 1 1), some (fl_ea (.goto 4) 3 73), none, none], [some (fl_e0 (.iconst 0) 1), fl_el (fl_ef (.invokestatic 49) 3 79 1 0 16 1271) [true, true, false, true, false, true], none, none, some (fl_e0 (.iadd) 1), some (fl_ea (.istore 4) 2 4), none, some (fl_ea (.iload 5) 2 5)], [none, some (fl_ea (.iload_n 1) 1 1), some (fl_e0 (.iadd) 1), some (fl_ea (.istore 5) 2 5), none, some (fl_ea (.goto (-41)) 3 44), none, none], [some (fl_ea (.iload_n 3) 1 3), some (fl_ea (.ifCond .ne 6) 3 95), none, none, some (fl_ex1 (.bipush (-2)) 2 (-2)), none, some (fl_e0 (.ireturn) 1), some (fl_ea (.iload_n 3) 1 3)], [some (fl_ea (.iload 4) 2 4), none, fl_el (fl_ef (.invokestatic 271) 3 187 2 0 32 1461) [true, false, false, true, true], none, none, some (fl_ea (.istore 5) 2 5), none, some (fl_e0 (.aload_n 0) 1)], [some (fl_e0 (.iconst 0) 1), some (fl_ef (.putfield 11) 3 11 1 0 0 1122), none, none, fl_el (fl_e0 (.aload_n 0) 1) [true, false, false, true, true, true], some (fl_ea (.iload 4) 2 4), none, some (fl_ea (.iload 5) 2 5)], [none, some (fl_e0 (.idiv) 1), some (fl_e0 (.i2l) 1), fl_el (fl_ef (.invokevirtual 250) 3 143 2 1 59 1405) [true, false, false, true, false, true], none, none, some (fl_e0 (.aload_n 0) 1), some (fl_ea (.iload_n 3) 1 3)], [some (fl_ea (.iload 5) 2 5), none, some (fl_e0 (.idiv) 1), some (fl_e0 (.i2l) 1), fl_el (fl_ef (.invokevirtual 250) 3 143 2 1 59 1405) [], none, none, some (fl_e0 (.iconst 0) 1)]], [[some (fl_e0 (.ireturn) 1)]]]
/-- FaultLists$Side.holdWhatGave(LFaultLists$Net;LFaultLists$Side;)V -/
def fl_c189 : List (List (List (Option fl_E))) := [[[some (fl_ea (.aload_n 1) 1 1), some (fl_ef (.getfield 33) 3 4 0 0 0 75), none, none, some (fl_ea (.istore_n 3) 1 3), fl_el (fl_ea (.iload_n 3) 1 3) [true, true, true, true], some (fl_ea (.aload_n 1) 1 1), some (fl_ef (.getfield 39) 3 4 1 0 0 81)], [none, none, some (fl_ea (.if_icmp .ge 41) 3 51), none, none, some (fl_e0 (.aload_n 0) 1), some (fl_ef (.getfield 23) 3 9 2 2 0 201), none], [none, some (fl_ea (.iload_n 3) 1 3), some (fl_ea (.aload_n 2) 1 2), some (fl_ef (.getfield 14) 3 9 0 2 0 195), none, none, some (fl_ea (.iload_n 3) 1 3), fl_el (fl_ef (.invokevirtual 59) 3 105 2 1 33 689) [true, true, true, true]], [none, none, fl_el (fl_ef (.invokevirtual 55) 3 20 3 1 65 384) [true, true, true, true], none, none, some (fl_e0 (.aload_n 0) 1), some (fl_ef (.getfield 26) 3 9 3 2 0 204), none], [none, some (fl_ea (.iload_n 3) 1 3), some (fl_ea (.aload_n 2) 1 2), some (fl_ef (.getfield 20) 3 9 1 2 0 198), none, none, some (fl_ea (.iload_n 3) 1 3), fl_el (fl_ef (.invokevirtual 59) 3 105 2 1 33 689) [true, true, true, true]], [none, none, fl_el (fl_ef (.invokevirtual 55) 3 20 3 1 65 384) [true, true, true, true], none, none, some (fl_ew (.iinc 3 1) 3 3 0 0 0 0 1 0 []), none, none], [some (fl_ea (.goto (-43)) 3 5), none, none, some (fl_e0 (.return_) 1)]]]
/-- java/lang/Integer.bitCount(I)I -/
def fl_c190 : List (List (List (Option fl_E))) := [[[some (fl_e0 (.iload_n 0) 1), some (fl_e0 (.iload_n 0) 1), some (fl_ex1 (.iconst 1) 1 1), some (fl_e0 (.iushr) 1), some (fl_ew (.ldc_w 265) 3 0 0 0 0 843 1431655765 0 []), none, none, some (fl_e0 (.iand) 1)], [some (fl_e0 (.isub) 1), some (fl_e0 (.istore_n 0) 1), some (fl_e0 (.iload_n 0) 1), some (fl_ew (.ldc_w 266) 3 0 0 0 0 844 858993459 0 []), none, none, some (fl_e0 (.iand) 1), some (fl_e0 (.iload_n 0) 1)], [some (fl_ex1 (.iconst 2) 1 2), some (fl_e0 (.iushr) 1), some (fl_ew (.ldc_w 266) 3 0 0 0 0 844 858993459 0 []), none, none, some (fl_e0 (.iand) 1), some (fl_e0 (.iadd) 1), some (fl_e0 (.istore_n 0) 1)], [some (fl_e0 (.iload_n 0) 1), some (fl_e0 (.iload_n 0) 1), some (fl_ex1 (.iconst 4) 1 4), some (fl_e0 (.iushr) 1), some (fl_e0 (.iadd) 1), some (fl_ew (.ldc_w 267) 3 0 0 0 0 845 252645135 0 []), none, none], [some (fl_e0 (.iand) 1), some (fl_e0 (.istore_n 0) 1), some (fl_e0 (.iload_n 0) 1), some (fl_e0 (.iload_n 0) 1), some (fl_ex1 (.bipush 8) 2 8), none, some (fl_e0 (.iushr) 1), some (fl_e0 (.iadd) 1)], [some (fl_e0 (.istore_n 0) 1), some (fl_e0 (.iload_n 0) 1), some (fl_e0 (.iload_n 0) 1), some (fl_ex1 (.bipush 16) 2 16), none, some (fl_e0 (.iushr) 1), some (fl_e0 (.iadd) 1), some (fl_e0 (.istore_n 0) 1)], [some (fl_e0 (.iload_n 0) 1), some (fl_ex1 (.bipush 63) 2 63), none, some (fl_e0 (.iand) 1), some (fl_e0 (.ireturn) 1)]]]
/-- FaultLists.critical(I)I -/
def fl_c191 : List (List (List (Option fl_E))) := [[[some (fl_e0 (.aload_n 0) 1), some (fl_ef (.getfield 31) 3 10 3 2 0 388), none, none, some (fl_ef (.getfield 72) 3 7 0 2 0 230), none, none, some (fl_ea (.astore_n 2) 1 2)], [some (fl_ea (.aload_n 2) 1 2), some (fl_ea (.iload_n 1) 1 1), fl_el (fl_ef (.invokevirtual 147) 3 61 2 1 52 832) [true, true, true], none, none, some (fl_ea (.ifCond .ne 5) 3 18), none, none], [some (fl_ex1 (.iconst (-1)) 1 (-1)), some (fl_e0 (.ireturn) 1), some (fl_e0 (.aload_n 0) 1), some (fl_ef (.getfield 31) 3 10 3 2 0 388), none, none, some (fl_ef (.getfield 167) 3 7 3 0 0 236), none], [none, some (fl_ea (.ifCond .ne 6) 3 31), none, none, some (fl_ex1 (.bipush (-2)) 2 (-2)), none, some (fl_e0 (.ireturn) 1), some (fl_e0 (.aload_n 0) 1)], [some (fl_ef (.getfield 31) 3 10 3 2 0 388), none, none, some (fl_ef (.getfield 180) 3 7 1 2 0 232), none, none, some (fl_ef (.getfield 191) 3 0 0 2 0 218), none], [none, some (fl_ea (.astore_n 3) 1 3), some (fl_e0 (.aload_n 0) 1), some (fl_ef (.getfield 54) 3 10 10 2 0 395), none, none, some (fl_ea (.aload_n 2) 1 2), some (fl_ea (.aload_n 3) 1 3)], [fl_el (fl_ef (.invokevirtual 232) 3 189 3 1 73 833) [true, true, true, true], none, none, some (fl_e0 (.aload_n 0) 1), some (fl_ef (.getfield 54) 3 10 10 2 0 395), none, none, some (fl_ea (.aload_n 2) 1 2)], [some (fl_e0 (.aload_n 0) 1), some (fl_ef (.getfield 31) 3 10 3 2 0 388), none, none, some (fl_ef (.getfield 236) 3 7 2 2 0 234), none, none, some (fl_e0 (.aload_n 0) 1)]], [[some (fl_ef (.getfield 31) 3 10 3 2 0 388), none, none, some (fl_ef (.getfield 167) 3 7 3 0 0 236), none, none, some (fl_ex1 (.iconst 1) 1 1), some (fl_e0 (.isub) 1)], [fl_el (fl_ef (.invokevirtual 135) 3 24 2 1 33 822) [true, true, true, true], none, none, some (fl_ea (.aload_n 2) 1 2), fl_el (fl_ef (.invokevirtual 239) 3 110 1 1 20 837) [true, true, true, true], none, none, fl_el (fl_ef (.invokevirtual 243) 3 115 4 1 137 838) [true, true, true, true]], [none, none, some (fl_e0 (.aload_n 0) 1), some (fl_ef (.getfield 54) 3 10 10 2 0 395), none, none, some (fl_ea (.aload_n 3) 1 3), some (fl_ea (.iload_n 1) 1 1)], [fl_el (fl_ef (.invokestatic 247) 3 117 3 0 48 839) [true, false, true, true], none, none, some (fl_ea (.lstore 4) 2 4), none, some (fl_e0 (.iconst 0) 1), some (fl_ea (.istore 6) 2 6), none], [some (fl_e0 (.iconst 0) 1), some (fl_ea (.istore 7) 2 7), none, fl_el (fl_ea (.iload 7) 2 7) [true, false, true, true, true, false, true, true], none, some (fl_ea (.aload_n 2) 1 2), some (fl_ef (.getfield 251) 3 4 1 0 0 85), none], [none, some (fl_ea (.if_icmp .ge 50) 3 155), none, none, some (fl_ea (.aload_n 3) 1 3), some (fl_ea (.iload 7) 2 7), none, some (fl_e0 (.iconst 0) 1)], [fl_el (fl_ef (.invokevirtual 194) 3 158 3 1 57 786) [true, false, true, true, true, false, true, true], none, none, some (fl_ea (.istore 8) 2 8), none, some (fl_ea (.iload 8) 2 8), none, some (fl_ex1 (.iconst 2) 1 2)], [some (fl_ea (.if_icmp .eq 29) 3 149), none, none, some (fl_ea (.lload 4) 2 4), none, some (fl_ex1 (.iconst 2) 1 2), some (fl_ea (.iload 7) 2 7), none]], [[some (fl_e0 (.imul) 1), some (fl_ex1 (.iconst 1) 1 1), some (fl_e0 (.iadd) 1), some (fl_ea (.iload 8) 2 8), none, some (fl_e0 (.isub) 1), fl_el (fl_ef (.invokestatic 216) 3 120 2 0 48 820) [true, false, true, true, true, false, true, true], none], [none, some (fl_ea (.ifCond .eq 12) 3 149), none, none, some (fl_ea (.iload 6) 2 6), none, some (fl_ex1 (.iconst 1) 1 1), some (fl_ea (.iload 7) 2 7)], [none, some (fl_e0 (.ishl) 1), some (fl_e0 (.ior) 1), some (fl_ea (.istore 6) 2 6), none, fl_el (fl_ew (.iinc 7 1) 3 7 0 0 0 0 1 0 []) [true, false, true, true, true, false, true, true], none, none], [some (fl_ea (.goto (-53)) 3 99), none, none, some (fl_e0 (.aload_n 0) 1), some (fl_ea (.iload 6) 2 6), none, fl_el (fl_ef (.invokestatic 254) 3 190 1 0 16 840) [false, false, false, false, false, false, true], none], [none, some (fl_e0 (.i2l) 1), fl_el (fl_ef (.invokevirtual 185) 3 125 2 1 58 739) [false, false, false, false, false, false, true], none, none, some (fl_ea (.iload 6) 2 6), none, some (fl_e0 (.ireturn) 1)]]]
/-- FaultListsModel.valueWith(II)I -/
def fl_c192 : List (List (List (Option fl_E))) := [[[some (fl_ex1 (.bipush 12) 2 12), none, some (fl_e0 (.aload_n 0) 1), some (fl_ef (.getfield 214) 3 11 16 0 0 1137), none, none, some (fl_ex1 (.iconst 1) 1 1), some (fl_e0 (.isub) 1)], [some (fl_e0 (.imul) 1), some (fl_ea (.istore_n 3) 1 3), some (fl_e0 (.iconst 0) 1), some (fl_ea (.istore 4) 2 4), none, fl_el (fl_ea (.iload 4) 2 4) [true, true, true, true, true], none, some (fl_e0 (.aload_n 0) 1)], [fl_el (fl_ef (.invokevirtual 126) 3 95 1 1 27 1319) [true, true, true, true, true], none, none, some (fl_ea (.if_icmp .ge 77) 3 96), none, none, some (fl_ea (.iload 4) 2 4), none], [some (fl_e0 (.aload_n 0) 1), fl_el (fl_ef (.invokevirtual 199) 3 129 1 1 27 1349) [true, true, true, true, true], none, none, some (fl_ea (.if_icmp .lt 12) 3 40), none, none, some (fl_e0 (.aload_n 0) 1)], [some (fl_ea (.iload 4) 2 4), none, fl_el (fl_ef (.invokevirtual 132) 3 97 2 1 43 1324) [true, true, true, true, true], none, none, some (fl_ea (.ifCond .eq 15) 3 52), none, none], [fl_el (fl_e0 (.aload_n 0) 1) [true, true, true, true, true], some (fl_ef (.getfield 80) 3 11 17 2 0 1138), none, none, some (fl_ea (.iload_n 3) 1 3), some (fl_ea (.iload 4) 2 4), none, some (fl_e0 (.iadd) 1)], [some (fl_ea (.iaload) 1 2), some (fl_ea (.goto 10) 3 59), none, none, some (fl_e0 (.aload_n 0) 1), some (fl_ea (.iload 4) 2 4), none, some (fl_ex1 (.iconst (-1)) 1 (-1))], [fl_el (fl_ef (.invokevirtual 205) 3 135 3 1 171 1384) [true, true, true, true, true], none, none, some (fl_ea (.istore 5) 2 5), none, some (fl_e0 (.aload_n 0) 1), some (fl_ef (.getfield 71) 3 11 13 2 0 1134), none]], [[none, some (fl_ea (.iload 4) 2 4), none, some (fl_ea (.iload 4) 2 4), none, some (fl_ea (.iload_n 1) 1 1), some (fl_ea (.if_icmp .ne 17) 3 87), none], [none, some (fl_ex1 (.iconst 1) 1 1), some (fl_e0 (.aload_n 0) 1), some (fl_ef (.getfield 80) 3 11 17 2 0 1138), none, none, some (fl_ea (.iload_n 3) 1 3), some (fl_ea (.iload 4) 2 4)], [none, some (fl_e0 (.iadd) 1), some (fl_ea (.iaload) 1 2), some (fl_e0 (.isub) 1), some (fl_ea (.goto 5) 3 89), none, none, some (fl_ea (.iload 5) 2 5)], [none, some (fl_e0 (.iastore) 1), fl_el (fl_ew (.iinc 4 1) 3 4 0 0 0 0 1 0 []) [true, true, true, true, true], none, none, some (fl_ea (.goto (-80)) 3 13), none, none], [some (fl_e0 (.aload_n 0) 1), some (fl_ef (.getfield 71) 3 11 13 2 0 1134), none, none, some (fl_ea (.iload_n 2) 1 2), some (fl_ea (.iaload) 1 2), some (fl_e0 (.ireturn) 1)]]]
/-- FaultListsModel.critical(I)I -/
def fl_c193 : List (List (List (Option fl_E))) := [[[some (fl_e0 (.aload_n 0) 1), some (fl_e0 (.iconst 0) 1), some (fl_ef (.putfield 3) 3 11 0 0 0 1121), none, none, fl_el (fl_e0 (.aload_n 0) 1) [true, true], some (fl_ea (.iload_n 1) 1 1), fl_el (fl_ef (.invokevirtual 184) 3 96 2 1 43 1315) [true, true]], [none, none, some (fl_ea (.ifCond .eq 11) 3 21), none, none, some (fl_e0 (.aload_n 0) 1), some (fl_ea (.iload_n 1) 1 1), fl_el (fl_ef (.invokevirtual 189) 3 98 2 1 59 1328) [true, true]], [none, none, some (fl_ea (.ifCond .ne 5) 3 23), none, none, fl_el (fl_ex1 (.iconst (-1)) 1 (-1)) [], some (fl_e0 (.ireturn) 1), some (fl_e0 (.aload_n 0) 1)], [fl_el (fl_ef (.invokevirtual 211) 3 130 1 1 27 1353) [true, true], none, none, some (fl_ea (.ifCond .ne 6) 3 33), none, none, some (fl_ex1 (.bipush (-2)) 2 (-2)), none], [some (fl_e0 (.ireturn) 1), some (fl_e0 (.aload_n 0) 1), fl_el (fl_ef (.invokevirtual 232) 3 131 1 1 43 1361) [true, true], none, none, some (fl_e0 (.aload_n 0) 1), fl_el (fl_ef (.invokevirtual 226) 3 138 1 1 59 1365) [true, true], none], [none, some (fl_e0 (.aload_n 0) 1), some (fl_ef (.getfield 80) 3 11 17 2 0 1138), none, none, some (fl_ex1 (.bipush 12) 2 12), none, some (fl_e0 (.aload_n 0) 1)], [some (fl_ef (.getfield 214) 3 11 16 0 0 1137), none, none, some (fl_ex1 (.iconst 1) 1 1), some (fl_e0 (.isub) 1), some (fl_e0 (.imul) 1), some (fl_ea (.iload_n 1) 1 1), some (fl_e0 (.iadd) 1)], [some (fl_ea (.iaload) 1 2), some (fl_ea (.istore_n 2) 1 2), some (fl_e0 (.iconst 0) 1), some (fl_ea (.istore_n 3) 1 3), some (fl_e0 (.iconst 0) 1), some (fl_ea (.istore 4) 2 4), none, fl_el (fl_ea (.iload 4) 2 4) [true, true, true, true, true]]], [[none, some (fl_e0 (.aload_n 0) 1), fl_el (fl_ef (.invokevirtual 126) 3 95 1 1 27 1319) [true, true, true, true, true], none, none, some (fl_ea (.if_icmp .ge 71) 3 140), none, none], [some (fl_ea (.iload_n 2) 1 2), some (fl_ex1 (.iconst 2) 1 2), some (fl_ea (.if_icmp .eq 28) 3 102), none, none, some (fl_e0 (.aload_n 0) 1), some (fl_ef (.getfield 80) 3 11 17 2 0 1138), none], [none, some (fl_ex1 (.bipush 12) 2 12), none, some (fl_e0 (.aload_n 0) 1), some (fl_ef (.getfield 214) 3 11 16 0 0 1137), none, none, some (fl_ex1 (.iconst 1) 1 1)], [some (fl_e0 (.isub) 1), some (fl_e0 (.imul) 1), some (fl_ea (.iload 4) 2 4), none, some (fl_e0 (.iadd) 1), some (fl_ea (.iaload) 1 2), some (fl_ex1 (.iconst 2) 1 2), some (fl_ea (.if_icmp .eq 7) 3 102)], [none, none, some (fl_ex1 (.iconst 1) 1 1), some (fl_ea (.goto 4) 3 103), none, none, fl_el (fl_e0 (.iconst 0) 1) [true, true, true, true, true], some (fl_ea (.istore 5) 2 5)], [none, some (fl_ea (.iload_n 3) 1 3), some (fl_ea (.iload 5) 2 5), none, some (fl_ea (.ifCond .eq 23) 3 131), none, none, some (fl_e0 (.aload_n 0) 1)], [some (fl_ea (.iload 4) 2 4), none, some (fl_ea (.iload_n 1) 1 1), fl_el (fl_ef (.invokevirtual 276) 3 192 3 1 107 1468) [true, true, true, false, true], none, none, some (fl_ex1 (.iconst 1) 1 1), some (fl_ea (.iload_n 2) 1 2)], [some (fl_e0 (.isub) 1), some (fl_ea (.if_icmp .ne 10) 3 131), none, none, some (fl_ex1 (.iconst 1) 1 1), some (fl_ea (.iload 4) 2 4), none, some (fl_e0 (.ishl) 1)]], [[some (fl_ea (.goto 4) 3 132), none, none, some (fl_e0 (.iconst 0) 1), some (fl_e0 (.ior) 1), some (fl_ea (.istore_n 3) 1 3), some (fl_ew (.iinc 4 1) 3 4 0 0 0 0 1 0 []), none], [none, some (fl_ea (.goto (-74)) 3 63), none, none, some (fl_e0 (.aload_n 0) 1), some (fl_e0 (.iconst 0) 1), some (fl_ef (.putfield 11) 3 11 1 0 0 1122), none], [none, fl_el (fl_e0 (.aload_n 0) 1) [true, false, false, true], some (fl_ea (.iload_n 3) 1 3), some (fl_e0 (.i2l) 1), fl_el (fl_ef (.invokestatic 254) 3 144 1 0 64 1409) [false, false, false, true], none, none, some (fl_e0 (.i2l) 1)], [fl_el (fl_ef (.invokevirtual 250) 3 143 2 1 59 1405) [false, false, false, true], none, none, some (fl_ea (.iload_n 3) 1 3), some (fl_e0 (.ireturn) 1)]]]
/-- FaultLists$Kin.join(II)V -/
def fl_c194 : List (List (List (Option fl_E))) := [[[some (fl_e0 (.aload_n 0) 1), some (fl_ef (.getfield 14) 3 2 0 2 0 282), none, none, some (fl_ea (.iload_n 1) 1 1), fl_el (fl_ef (.invokevirtual 71) 3 105 2 1 33 866) [true, false, true], none, none], [some (fl_e0 (.aload_n 0) 1), some (fl_ef (.getfield 14) 3 2 0 2 0 282), none, none, some (fl_ea (.iload_n 2) 1 2), fl_el (fl_ef (.invokevirtual 71) 3 105 2 1 33 866) [true], none, none], [some (fl_e0 (.lor) 1), some (fl_ea (.lstore_n 3) 1 3), some (fl_e0 (.iconst 0) 1), some (fl_ea (.istore 5) 2 5), none, fl_el (fl_ea (.iload 5) 2 5) [true, false, false, true, false, true], none, some (fl_ex1 (.bipush 64) 2 64)], [none, some (fl_ea (.if_icmp .ge 28) 3 53), none, none, some (fl_ea (.lload_n 3) 1 3), some (fl_ea (.iload 5) 2 5), none, fl_el (fl_ef (.invokestatic 75) 3 120 2 10 48 867) [true, false, false, true, false, true]], [none, none, some (fl_ea (.ifCond .eq 13) 3 47), none, none, some (fl_e0 (.aload_n 0) 1), some (fl_ef (.getfield 14) 3 2 0 2 0 282), none], [none, some (fl_ea (.iload 5) 2 5), none, some (fl_ea (.lload_n 3) 1 3), fl_el (fl_ef (.invokevirtual 20) 3 20 3 1 65 854) [true, false, false, true, false, true], none, none, fl_el (fl_ew (.iinc 5 1) 3 5 0 0 0 0 1 0 []) [true, false, false, true, false, true]], [none, none, some (fl_ea (.goto (-29)) 3 21), none, none, some (fl_e0 (.return_) 1)]]]
/-- FaultLists$Kin.joinThroughGate(LFaultLists$Net;II)V -/
def fl_c195 : List (List (List (Option fl_E))) := [[[some (fl_ea (.aload_n 1) 1 1), some (fl_ef (.getfield 65) 3 4 5 2 0 102), none, none, some (fl_ea (.iload_n 2) 1 2), fl_el (fl_ef (.invokevirtual 33) 3 24 2 1 33 855) [true, true, true, true], none, none], [some (fl_ea (.istore 4) 2 4), none, some (fl_ea (.iload 4) 2 4), none, fl_el (fl_ef (.invokestatic 68) 3 112 1 0 16 860) [true, true, true, true, true], none, none, some (fl_ea (.ifCond .eq 7) 3 22)], [none, none, some (fl_ex1 (.iconst 1) 1 1), some (fl_ea (.goto 4) 3 23), none, none, some (fl_e0 (.iconst 0) 1), fl_el (fl_ea (.istore 5) 2 5) [true, true, true, true, true]], [none, some (fl_ea (.iload 4) 2 4), none, some (fl_ex1 (.iconst 1) 1 1), some (fl_ea (.if_icmp .eq 9) 3 37), none, none, some (fl_ea (.iload 4) 2 4)], [none, some (fl_ex1 (.iconst 2) 1 2), some (fl_ea (.if_icmp .ne 7) 3 41), none, none, fl_el (fl_ex1 (.iconst 1) 1 1) [true, true, true, true, true, true], some (fl_ea (.goto 4) 3 42), none], [none, some (fl_e0 (.iconst 0) 1), fl_el (fl_ea (.istore 6) 2 6) [true, true, true, true, true, true], none, some (fl_ea (.iload 6) 2 6), none, some (fl_ea (.ifCond .ne 16) 3 62), none], [none, some (fl_ea (.iload 4) 2 4), none, some (fl_ex1 (.iconst 3) 1 3), some (fl_ea (.if_icmp .eq 10) 3 62), none, none, some (fl_ea (.iload 4) 2 4)], [none, some (fl_ex1 (.bipush 6) 2 6), none, some (fl_ea (.if_icmp .ne 19) 3 78), none, none, fl_el (fl_e0 (.aload_n 0) 1) [true, true, true, true, true, true, true], some (fl_ea (.aload_n 1) 1 1)]], [[some (fl_ea (.iload_n 3) 1 3), some (fl_e0 (.iconst 0) 1), fl_el (fl_ef (.invokevirtual 57) 3 111 3 1 52 861) [true, true, true, true, true, true, true], none, none, some (fl_ex1 (.iconst 2) 1 2), some (fl_ea (.iload_n 2) 1 2), some (fl_e0 (.imul) 1)], [some (fl_ea (.iload 5) 2 5), none, some (fl_e0 (.iadd) 1), fl_el (fl_ef (.invokevirtual 61) 3 194 3 1 98 862) [true, true, true, true, true, true, true], none, none, fl_el (fl_ea (.iload 6) 2 6) [true, true, true, true, true, true, true], none], [some (fl_ea (.ifCond .ne 16) 3 96), none, none, some (fl_ea (.iload 4) 2 4), none, some (fl_ex1 (.iconst 4) 1 4), some (fl_ea (.if_icmp .eq 10) 3 96), none], [none, some (fl_ea (.iload 4) 2 4), none, some (fl_ex1 (.bipush 7) 2 7), none, some (fl_ea (.if_icmp .ne 21) 3 114), none, none], [fl_el (fl_e0 (.aload_n 0) 1) [true, true, true, true, false, true], some (fl_ea (.aload_n 1) 1 1), some (fl_ea (.iload_n 3) 1 3), some (fl_ex1 (.iconst 1) 1 1), fl_el (fl_ef (.invokevirtual 57) 3 111 3 1 52 861) [false, false, true, false, false, true], none, none, some (fl_ex1 (.iconst 2) 1 2)], [some (fl_ea (.iload_n 2) 1 2), some (fl_e0 (.imul) 1), some (fl_ex1 (.iconst 1) 1 1), some (fl_e0 (.iadd) 1), some (fl_ea (.iload 5) 2 5), none, some (fl_e0 (.isub) 1), fl_el (fl_ef (.invokevirtual 61) 3 194 3 1 98 862) []], [none, none, fl_el (fl_e0 (.return_) 1) []]]]
/-- FaultLists$Kin.gather(LFaultLists$Net;)V -/
def fl_c196 : List (List (List (Option fl_E))) := [[[some (fl_e0 (.iconst 0) 1), some (fl_ea (.istore_n 2) 1 2), fl_el (fl_ea (.iload_n 2) 1 2) [true, true, true], some (fl_ex1 (.bipush 64) 2 64), none, some (fl_ea (.if_icmp .ge 20) 3 25), none, none], [some (fl_e0 (.aload_n 0) 1), some (fl_ef (.getfield 14) 3 2 0 2 0 282), none, none, some (fl_ea (.iload_n 2) 1 2), some (fl_ew (.lconst 1) 1 0 0 0 0 0 0 1 []), some (fl_ea (.iload_n 2) 1 2), some (fl_e0 (.lshl) 1)], [fl_el (fl_ef (.invokevirtual 20) 3 20 3 1 65 854) [true, true, true], none, none, some (fl_ew (.iinc 2 1) 3 2 0 0 0 0 1 0 []), none, none, some (fl_ea (.goto (-20)) 3 2), none], [none, some (fl_e0 (.iconst 0) 1), some (fl_ea (.istore_n 2) 1 2), fl_el (fl_ea (.iload_n 2) 1 2) [true, true, true], some (fl_ea (.aload_n 1) 1 1), some (fl_ef (.getfield 24) 3 4 1 0 0 80), none, none], [some (fl_ea (.if_icmp .ge 54) 3 86), none, none, some (fl_ea (.aload_n 1) 1 1), some (fl_ef (.getfield 30) 3 4 7 2 0 110), none, none, some (fl_ea (.iload_n 2) 1 2)], [fl_el (fl_ef (.invokevirtual 33) 3 24 2 1 33 855) [true, true, true], none, none, some (fl_ea (.istore_n 3) 1 3), some (fl_ea (.iload_n 3) 1 3), some (fl_ea (.aload_n 1) 1 1), some (fl_ef (.getfield 37) 3 4 6 2 0 106), none], [none, some (fl_ea (.iload_n 2) 1 2), fl_el (fl_ef (.invokevirtual 33) 3 24 2 1 33 855) [true, true, true, true], none, none, some (fl_e0 (.iadd) 1), some (fl_ea (.istore 4) 2 4), none], [some (fl_ea (.iload_n 3) 1 3), some (fl_ea (.istore 5) 2 5), none, fl_el (fl_ea (.iload 5) 2 5) [true, true, true, false, true, true], none, some (fl_ea (.iload 4) 2 4), none, some (fl_ea (.if_icmp .ge 17) 3 80)]], [[none, none, some (fl_e0 (.aload_n 0) 1), some (fl_ea (.aload_n 1) 1 1), some (fl_ea (.iload_n 2) 1 2), some (fl_ea (.iload 5) 2 5), none, fl_el (fl_ef (.invokevirtual 40) 3 195 4 1 114 856) [true, true, true, false, true, true]], [none, none, some (fl_ew (.iinc 5 1) 3 5 0 0 0 0 1 0 []), none, none, some (fl_ea (.goto (-18)) 3 59), none, none], [some (fl_ew (.iinc 2 1) 3 2 0 0 0 0 1 0 []), none, none, some (fl_ea (.goto (-56)) 3 27), none, none, some (fl_e0 (.iconst 0) 1), some (fl_ea (.istore_n 2) 1 2)], [fl_el (fl_ea (.iload_n 2) 1 2) [true, true, true], some (fl_ea (.aload_n 1) 1 1), some (fl_ef (.getfield 44) 3 4 2 0 0 87), none, none, some (fl_ea (.if_icmp .ge 63) 3 156), none, none], [some (fl_ea (.aload_n 1) 1 1), some (fl_ef (.getfield 47) 3 4 9 2 0 119), none, none, some (fl_ea (.iload_n 2) 1 2), fl_el (fl_ef (.invokevirtual 33) 3 24 2 1 33 855) [true, true, true], none, none], [some (fl_ea (.istore_n 3) 1 3), some (fl_ea (.aload_n 1) 1 1), some (fl_ea (.iload_n 3) 1 3), fl_el (fl_ef (.invokevirtual 50) 3 92 2 1 68 868) [true, true, true, true], none, none, some (fl_ex1 (.iconst 1) 1 1), some (fl_ea (.if_icmp .ne 39) 3 150)], [none, none, some (fl_ea (.aload_n 1) 1 1), some (fl_ea (.iload_n 3) 1 3), fl_el (fl_ef (.invokevirtual 53) 3 61 2 1 52 872) [true, true, true, true], none, none, some (fl_ea (.ifCond .ne 31) 3 150)], [none, none, some (fl_e0 (.aload_n 0) 1), some (fl_ex1 (.iconst 2) 1 2), some (fl_ea (.iload_n 3) 1 3), some (fl_e0 (.imul) 1), some (fl_ea (.aload_n 1) 1 1), some (fl_ea (.iload_n 2) 1 2)]], [[some (fl_e0 (.iconst 0) 1), fl_el (fl_ef (.invokevirtual 57) 3 111 3 1 52 861) [true, true, true, true], none, none, fl_el (fl_ef (.invokevirtual 61) 3 194 3 1 98 862) [true, true, true, true], none, none, some (fl_e0 (.aload_n 0) 1)], [some (fl_ex1 (.iconst 2) 1 2), some (fl_ea (.iload_n 3) 1 3), some (fl_e0 (.imul) 1), some (fl_ex1 (.iconst 1) 1 1), some (fl_e0 (.iadd) 1), some (fl_ea (.aload_n 1) 1 1), some (fl_ea (.iload_n 2) 1 2), some (fl_ex1 (.iconst 1) 1 1)], [fl_el (fl_ef (.invokevirtual 57) 3 111 3 1 52 861) [true, true, true], none, none, fl_el (fl_ef (.invokevirtual 61) 3 194 3 1 98 862) [true, true, true], none, none, fl_el (fl_ew (.iinc 2 1) 3 2 0 0 0 0 1 0 []) [true, true, true], none], [none, some (fl_ea (.goto (-65)) 3 88), none, none, some (fl_e0 (.return_) 1)]]]
/-- FaultLists.classes()I -/
def fl_c197 : List (List (List (Option fl_E))) := [[[some (fl_e0 (.aload_n 0) 1), some (fl_ef (.getfield 61) 3 10 11 2 0 396), none, none, some (fl_e0 (.aload_n 0) 1), some (fl_ef (.getfield 31) 3 10 3 2 0 388), none, none], [some (fl_ef (.getfield 72) 3 7 0 2 0 230), none, none, fl_el (fl_ef (.invokevirtual 258) 3 196 2 1 98 850) [true], none, none, some (fl_e0 (.iconst 0) 1), some (fl_ea (.istore_n 1) 1 1)], [some (fl_e0 (.lconst 0) 1), some (fl_ea (.lstore_n 2) 1 2), some (fl_e0 (.iconst 0) 1), some (fl_ea (.istore 4) 2 4), none, fl_el (fl_ea (.iload 4) 2 4) [true, true, true, false, true], none, some (fl_e0 (.aload_n 0) 1)], [some (fl_ef (.getfield 31) 3 10 3 2 0 388), none, none, some (fl_ef (.getfield 72) 3 7 0 2 0 230), none, none, fl_el (fl_ef (.invokevirtual 229) 3 66 1 1 20 827) [true, true, true, false, true], none], [none, some (fl_ea (.if_icmp .ge 59) 3 92), none, none, some (fl_e0 (.aload_n 0) 1), some (fl_ef (.getfield 61) 3 10 11 2 0 396), none, none], [some (fl_ef (.getfield 261) 3 2 0 2 0 283), none, none, some (fl_ea (.iload 4) 2 4), none, fl_el (fl_ef (.invokevirtual 223) 3 105 2 1 33 821) [true, true, true, false, true], none, none], [some (fl_ea (.lstore 5) 2 5), none, some (fl_ea (.lload 5) 2 5), none, some (fl_ew (.lconst 1) 1 0 0 0 0 0 0 1 []), some (fl_ea (.iload 4) 2 4), none, some (fl_e0 (.lshl) 1)], [some (fl_ew (.lconst 1) 1 0 0 0 0 0 0 1 []), some (fl_e0 (.lsub) 1), some (fl_e0 (.land) 1), some (fl_e0 (.lconst 0) 1), some (fl_e0 (.lcmp) 1), some (fl_ea (.ifCond .ne 25) 3 86), none, none]], [[some (fl_ew (.iinc 1 1) 3 1 0 0 0 0 1 0 []), none, none, some (fl_ea (.lload 5) 2 5), none, fl_el (fl_ef (.invokestatic 174) 3 126 1 0 32 743) [true, true, true, false, true, true], none, none], [some (fl_ea (.lload_n 2) 1 2), fl_el (fl_ef (.invokestatic 174) 3 126 1 0 32 743) [true, true, true, false, true, true], none, none, some (fl_ea (.if_icmp .le 8) 3 84), none, none, some (fl_ea (.lload 5) 2 5)], [none, some (fl_ea (.goto 4) 3 85), none, none, some (fl_ea (.lload_n 2) 1 2), some (fl_ea (.lstore_n 2) 1 2), fl_el (fl_ew (.iinc 4 1) 3 4 0 0 0 0 1 0 []) [true, true, true, false, true], none], [none, some (fl_ea (.goto (-68)) 3 21), none, none, some (fl_e0 (.aload_n 0) 1), some (fl_ea (.lload_n 2) 1 2), fl_el (fl_ef (.invokevirtual 185) 3 125 2 1 58 739) [false, true], none], [none, some (fl_ea (.iload_n 1) 1 1), some (fl_e0 (.ireturn) 1)]]]
/-- FaultListsModel.joins(II)V -/
def fl_c198 : List (List (List (Option fl_E))) := [[[some (fl_e0 (.aload_n 0) 1), some (fl_ef (.getfield 101) 3 11 24 2 0 1145), none, none, some (fl_ea (.iload_n 1) 1 1), some (fl_ea (.iaload) 1 2), some (fl_e0 (.aload_n 0) 1), some (fl_ef (.getfield 101) 3 11 24 2 0 1145)], [none, none, some (fl_ea (.iload_n 2) 1 2), some (fl_ea (.iaload) 1 2), fl_el (fl_ef (.invokestatic 279) 3 51 2 0 32 1488) [true, true, true], none, none, some (fl_ea (.istore_n 3) 1 3)], [some (fl_e0 (.aload_n 0) 1), some (fl_ef (.getfield 101) 3 11 24 2 0 1145), none, none, some (fl_ea (.iload_n 1) 1 1), some (fl_ea (.iaload) 1 2), some (fl_e0 (.aload_n 0) 1), some (fl_ef (.getfield 101) 3 11 24 2 0 1145)], [none, none, some (fl_ea (.iload_n 2) 1 2), some (fl_ea (.iaload) 1 2), fl_el (fl_ef (.invokestatic 284) 3 50 2 0 32 1489) [true, false, false, true], none, none, some (fl_ea (.istore 4) 2 4)], [none, some (fl_e0 (.iconst 0) 1), some (fl_ea (.istore 5) 2 5), none, fl_el (fl_ea (.iload 5) 2 5) [true, false, false, true, true, true], none, some (fl_e0 (.aload_n 0) 1), fl_el (fl_ef (.invokevirtual 129) 3 88 1 1 27 1303) [true, false, false, true, true, true]], [none, none, some (fl_ea (.if_icmp .ge 39) 3 81), none, none, some (fl_e0 (.aload_n 0) 1), some (fl_ef (.getfield 101) 3 11 24 2 0 1145), none], [none, some (fl_ea (.iload 5) 2 5), none, some (fl_e0 (.aload_n 0) 1), some (fl_ef (.getfield 101) 3 11 24 2 0 1145), none, none, some (fl_ea (.iload 5) 2 5)], [none, some (fl_ea (.iaload) 1 2), some (fl_ea (.iload 4) 2 4), none, some (fl_ea (.if_icmp .ne 7) 3 67), none, none, some (fl_ea (.iload_n 3) 1 3)]], [[some (fl_ea (.goto 10) 3 74), none, none, some (fl_e0 (.aload_n 0) 1), some (fl_ef (.getfield 101) 3 11 24 2 0 1145), none, none, some (fl_ea (.iload 5) 2 5)], [none, some (fl_ea (.iaload) 1 2), some (fl_e0 (.iastore) 1), fl_el (fl_ew (.iinc 5 1) 3 5 0 0 0 0 1 0 []) [true, false, false, true, true, true], none, none, some (fl_ea (.goto (-42)) 3 36), none], [none, some (fl_e0 (.return_) 1)]]]
/-- FaultListsModel.joinsPin(II)V -/
def fl_c199 : List (List (List (Option fl_E))) := [[[some (fl_ex1 (.iconst 2) 1 2), some (fl_ea (.iload_n 1) 1 1), some (fl_e0 (.imul) 1), some (fl_ea (.istore_n 3) 1 3), some (fl_ex1 (.iconst 2) 1 2), some (fl_e0 (.aload_n 0) 1), fl_el (fl_ef (.invokevirtual 126) 3 95 1 1 27 1319) [true, true, true, true], none], [none, some (fl_ea (.iload_n 2) 1 2), some (fl_e0 (.iadd) 1), some (fl_e0 (.imul) 1), some (fl_ea (.istore 4) 2 4), none, some (fl_e0 (.aload_n 0) 1), some (fl_ef (.getfield 59) 3 11 7 2 0 1128)], [none, none, some (fl_ex1 (.iconst 4) 1 4), some (fl_ea (.iload_n 1) 1 1), some (fl_e0 (.iadd) 1), some (fl_ea (.iaload) 1 2), some (fl_ew (.tableswitch 132 1 7 #[63, 42, 84, 106, 132, 94, 120]) 42 154 0 0 0 0 0 0 [(1, 85), (2, 64), (3, 106), (4, 128), (5, 154), (6, 116), (7, 142)]), none], [none, none, none, none, none, none, none, none], [none, none, none, none, none, none, none, none], [none, none, none, none, none, none, none, none], [none, none, none, none, none, none, none, none], [none, none, none, none, none, none, none, none]], [[some (fl_e0 (.aload_n 0) 1), some (fl_ea (.iload 4) 2 4), none, some (fl_ea (.iload_n 3) 1 3), fl_el (fl_ef (.invokevirtual 287) 3 198 3 1 107 1484) [true, false, true, true, true], none, none, some (fl_e0 (.aload_n 0) 1)], [some (fl_ea (.iload 4) 2 4), none, some (fl_ex1 (.iconst 1) 1 1), some (fl_e0 (.iadd) 1), some (fl_ea (.iload_n 3) 1 3), some (fl_ex1 (.iconst 1) 1 1), some (fl_e0 (.iadd) 1), fl_el (fl_ef (.invokevirtual 287) 3 198 3 1 107 1484) [true, false, true, false, true]], [none, none, some (fl_ea (.goto 72) 3 154), none, none, some (fl_e0 (.aload_n 0) 1), some (fl_ea (.iload 4) 2 4), none], [some (fl_ea (.iload_n 3) 1 3), some (fl_ex1 (.iconst 1) 1 1), some (fl_e0 (.iadd) 1), fl_el (fl_ef (.invokevirtual 287) 3 198 3 1 107 1484) [true, false, true, true, true], none, none, some (fl_e0 (.aload_n 0) 1), some (fl_ea (.iload 4) 2 4)], [none, some (fl_ex1 (.iconst 1) 1 1), some (fl_e0 (.iadd) 1), some (fl_ea (.iload_n 3) 1 3), fl_el (fl_ef (.invokevirtual 287) 3 198 3 1 107 1484) [true, false, true, false, true], none, none, some (fl_ea (.goto 51) 3 154)], [none, none, some (fl_e0 (.aload_n 0) 1), some (fl_ea (.iload 4) 2 4), none, some (fl_ea (.iload_n 3) 1 3), fl_el (fl_ef (.invokevirtual 287) 3 198 3 1 107 1484) [true, false, true, false, true], none], [none, some (fl_ea (.goto 41) 3 154), none, none, some (fl_e0 (.aload_n 0) 1), some (fl_ea (.iload 4) 2 4), none, some (fl_ea (.iload_n 3) 1 3)], [some (fl_ex1 (.iconst 1) 1 1), some (fl_e0 (.iadd) 1), fl_el (fl_ef (.invokevirtual 287) 3 198 3 1 107 1484) [true, false, true, false, true], none, none, some (fl_ea (.goto 29) 3 154), none, none]], [[some (fl_e0 (.aload_n 0) 1), some (fl_ea (.iload 4) 2 4), none, some (fl_ex1 (.iconst 1) 1 1), some (fl_e0 (.iadd) 1), some (fl_ea (.iload_n 3) 1 3), some (fl_ex1 (.iconst 1) 1 1), some (fl_e0 (.iadd) 1)], [fl_el (fl_ef (.invokevirtual 287) 3 198 3 1 107 1484) [true, false, true, false, true], none, none, some (fl_ea (.goto 15) 3 154), none, none, some (fl_e0 (.aload_n 0) 1), some (fl_ea (.iload 4) 2 4)], [none, some (fl_ex1 (.iconst 1) 1 1), some (fl_e0 (.iadd) 1), some (fl_ea (.iload_n 3) 1 3), fl_el (fl_ef (.invokevirtual 287) 3 198 3 1 107 1484) [true, false, true, false, true], none, none, some (fl_ea (.goto 3) 3 154)], [none, none, fl_el (fl_e0 (.aload_n 0) 1) [true, false, true, false, true], some (fl_ef (.getfield 59) 3 11 7 2 0 1128), none, none, some (fl_ex1 (.bipush 52) 2 52), none], [some (fl_ea (.iload_n 2) 1 2), some (fl_e0 (.iadd) 1), some (fl_ea (.iaload) 1 2), some (fl_ea (.istore 5) 2 5), none, some (fl_e0 (.aload_n 0) 1), some (fl_ea (.iload 5) 2 5), none], [fl_el (fl_ef (.invokevirtual 192) 3 99 2 1 75 1332) [true, false, false, false, true, true], none, none, some (fl_ex1 (.iconst 1) 1 1), some (fl_ea (.if_icmp .ne 36) 3 208), none, none, some (fl_e0 (.aload_n 0) 1)], [some (fl_ea (.iload 5) 2 5), none, fl_el (fl_ef (.invokevirtual 189) 3 98 2 1 59 1328) [true, false, false, false, true, true], none, none, some (fl_ea (.ifCond .ne 27) 3 208), none, none], [some (fl_e0 (.aload_n 0) 1), some (fl_ea (.iload 4) 2 4), none, some (fl_ex1 (.iconst 2) 1 2), some (fl_ea (.iload 5) 2 5), none, some (fl_e0 (.imul) 1), fl_el (fl_ef (.invokevirtual 287) 3 198 3 1 107 1484) [true, false, false, false, true, true]]], [[none, none, some (fl_e0 (.aload_n 0) 1), some (fl_ea (.iload 4) 2 4), none, some (fl_ex1 (.iconst 1) 1 1), some (fl_e0 (.iadd) 1), some (fl_ex1 (.iconst 2) 1 2)], [some (fl_ea (.iload 5) 2 5), none, some (fl_e0 (.imul) 1), some (fl_ex1 (.iconst 1) 1 1), some (fl_e0 (.iadd) 1), fl_el (fl_ef (.invokevirtual 287) 3 198 3 1 107 1484) [], none, none], [fl_el (fl_e0 (.return_) 1) []]]]
/-- FaultListsModel.laysClasses()V -/
def fl_c200 : List (List (List (Option fl_E))) := [[[some (fl_e0 (.iconst 0) 1), some (fl_ea (.istore_n 1) 1 1), fl_el (fl_ea (.iload_n 1) 1 1) [true, true], some (fl_e0 (.aload_n 0) 1), fl_el (fl_ef (.invokevirtual 129) 3 88 1 1 27 1303) [true, true], none, none, some (fl_ea (.if_icmp .ge 16) 3 23)], [none, none, some (fl_e0 (.aload_n 0) 1), some (fl_ef (.getfield 101) 3 11 24 2 0 1145), none, none, some (fl_ea (.iload_n 1) 1 1), some (fl_ea (.iload_n 1) 1 1)], [some (fl_e0 (.iastore) 1), fl_el (fl_ew (.iinc 1 1) 3 1 0 0 0 0 1 0 []) [true, true], none, none, some (fl_ea (.goto (-18)) 3 2), none, none, some (fl_e0 (.iconst 0) 1)], [some (fl_ea (.istore_n 1) 1 1), fl_el (fl_ea (.iload_n 1) 1 1) [true, true], some (fl_e0 (.aload_n 0) 1), fl_el (fl_ef (.invokevirtual 126) 3 95 1 1 27 1319) [true, true], none, none, some (fl_ea (.if_icmp .ge 54) 3 84), none], [none, some (fl_e0 (.aload_n 0) 1), some (fl_ef (.getfield 59) 3 11 7 2 0 1128), none, none, some (fl_ex1 (.bipush 16) 2 16), none, some (fl_ea (.iload_n 1) 1 1)], [some (fl_e0 (.iadd) 1), some (fl_ea (.iaload) 1 2), some (fl_ea (.istore_n 2) 1 2), fl_el (fl_ea (.iload_n 2) 1 2) [true, true, true], some (fl_e0 (.aload_n 0) 1), some (fl_ef (.getfield 59) 3 11 7 2 0 1128), none, none], [some (fl_ex1 (.bipush 16) 2 16), none, some (fl_ea (.iload_n 1) 1 1), some (fl_e0 (.iadd) 1), some (fl_ea (.iaload) 1 2), some (fl_e0 (.aload_n 0) 1), some (fl_ef (.getfield 59) 3 11 7 2 0 1128), none], [none, some (fl_ex1 (.bipush 28) 2 28), none, some (fl_ea (.iload_n 1) 1 1), some (fl_e0 (.iadd) 1), some (fl_ea (.iaload) 1 2), some (fl_e0 (.iadd) 1), some (fl_ea (.if_icmp .ge 15) 3 78)]], [[none, none, some (fl_e0 (.aload_n 0) 1), some (fl_ea (.iload_n 1) 1 1), some (fl_ea (.iload_n 2) 1 2), fl_el (fl_ef (.invokevirtual 290) 3 199 3 1 107 1480) [true, true, true], none, none], [some (fl_ew (.iinc 2 1) 3 2 0 0 0 0 1 0 []), none, none, some (fl_ea (.goto (-32)) 3 43), none, none, some (fl_ew (.iinc 1 1) 3 1 0 0 0 0 1 0 []), none], [none, some (fl_ea (.goto (-56)) 3 25), none, none, some (fl_e0 (.return_) 1)]]]
/-- FaultListsModel.classAt(I)J -/
def fl_c201 : List (List (List (Option fl_E))) := [[[some (fl_e0 (.lconst 0) 1), some (fl_ea (.lstore_n 2) 1 2), some (fl_e0 (.iconst 0) 1), some (fl_ea (.istore 4) 2 4), none, fl_el (fl_ea (.iload 4) 2 4) [true, true, true, false, true], none, some (fl_e0 (.aload_n 0) 1)], [fl_el (fl_ef (.invokevirtual 129) 3 88 1 1 27 1303) [true, true, true, false, true], none, none, some (fl_ea (.if_icmp .ge 31) 3 42), none, none, some (fl_ea (.lload_n 2) 1 2), some (fl_e0 (.aload_n 0) 1)], [some (fl_ef (.getfield 101) 3 11 24 2 0 1145), none, none, some (fl_ea (.iload 4) 2 4), none, some (fl_ea (.iaload) 1 2), some (fl_ea (.iload_n 1) 1 1), some (fl_ea (.if_icmp .ne 10) 3 33)], [none, none, some (fl_ew (.lconst 1) 1 0 0 0 0 0 0 1 []), some (fl_ea (.iload 4) 2 4), none, some (fl_e0 (.lshl) 1), some (fl_ea (.goto 4) 3 34), none], [none, some (fl_e0 (.lconst 0) 1), some (fl_e0 (.lor) 1), some (fl_ea (.lstore_n 2) 1 2), some (fl_ew (.iinc 4 1) 3 4 0 0 0 0 1 0 []), none, none, some (fl_ea (.goto (-34)) 3 5)], [none, none, some (fl_ea (.lload_n 2) 1 2), some (fl_e0 (.lreturn) 1)]]]
/-- FaultListsModel.classes()I -/
def fl_c202 : List (List (List (Option fl_E))) := [[[some (fl_e0 (.aload_n 0) 1), some (fl_e0 (.iconst 0) 1), some (fl_ef (.putfield 3) 3 11 0 0 0 1121), none, none, fl_el (fl_e0 (.aload_n 0) 1) [true], fl_el (fl_ef (.invokevirtual 293) 3 200 1 1 59 1476) [true], none], [none, some (fl_e0 (.iconst 0) 1), some (fl_ea (.istore_n 1) 1 1), some (fl_e0 (.lconst 0) 1), some (fl_ea (.lstore_n 2) 1 2), some (fl_e0 (.iconst 0) 1), some (fl_ea (.istore 4) 2 4), none], [fl_el (fl_ea (.iload 4) 2 4) [true, true, true, false, true], none, some (fl_e0 (.aload_n 0) 1), fl_el (fl_ef (.invokevirtual 129) 3 88 1 1 27 1303) [true, true, true, false, true], none, none, some (fl_ea (.if_icmp .ge 54) 3 76), none], [none, some (fl_e0 (.aload_n 0) 1), some (fl_ef (.getfield 101) 3 11 24 2 0 1145), none, none, some (fl_ea (.iload 4) 2 4), none, some (fl_ea (.iaload) 1 2)], [some (fl_ea (.iload 4) 2 4), none, some (fl_ea (.if_icmp .eq 6) 3 40), none, none, some (fl_ea (.goto 33) 3 70), none, none], [some (fl_ew (.iinc 1 1) 3 1 0 0 0 0 1 0 []), none, none, some (fl_e0 (.aload_n 0) 1), some (fl_ea (.iload 4) 2 4), none, fl_el (fl_ef (.invokevirtual 296) 3 201 2 1 91 1490) [true, true, true, false, true], none], [none, fl_el (fl_ef (.invokestatic 254) 3 144 1 0 64 1409) [true, true, true, false, true], none, none, some (fl_ea (.lload_n 2) 1 2), fl_el (fl_ef (.invokestatic 254) 3 144 1 0 64 1409) [true, true, true, false, true], none, none], [some (fl_ea (.if_icmp .le 12) 3 68), none, none, some (fl_e0 (.aload_n 0) 1), some (fl_ea (.iload 4) 2 4), none, fl_el (fl_ef (.invokevirtual 296) 3 201 2 1 91 1490) [true, true, false, false, true], none]], [[none, some (fl_ea (.goto 4) 3 69), none, none, some (fl_ea (.lload_n 2) 1 2), some (fl_ea (.lstore_n 2) 1 2), fl_el (fl_ew (.iinc 4 1) 3 4 0 0 0 0 1 0 []) [true, true, true, false, true], none], [none, some (fl_ea (.goto (-57)) 3 16), none, none, some (fl_e0 (.aload_n 0) 1), some (fl_e0 (.iconst 0) 1), some (fl_ef (.putfield 11) 3 11 1 0 0 1122), none], [none, fl_el (fl_e0 (.aload_n 0) 1) [true, true, true], some (fl_ea (.lload_n 2) 1 2), fl_el (fl_ef (.invokevirtual 250) 3 143 2 1 59 1405) [false, true], none, none, some (fl_ea (.iload_n 1) 1 1), some (fl_e0 (.ireturn) 1)]]]
/-- FaultLists.classOf(I)I -/
def fl_c203 : List (List (List (Option fl_E))) := [[[some (fl_e0 (.aload_n 0) 1), some (fl_ef (.getfield 31) 3 10 3 2 0 388), none, none, some (fl_ef (.getfield 72) 3 7 0 2 0 230), none, none, some (fl_ea (.iload_n 1) 1 1)], [fl_el (fl_ef (.invokevirtual 198) 3 162 2 1 36 795) [true, true], none, none, some (fl_ea (.ifCond .ne 5) 3 16), none, none, some (fl_ex1 (.iconst (-1)) 1 (-1)), some (fl_e0 (.ireturn) 1)], [some (fl_e0 (.aload_n 0) 1), some (fl_ef (.getfield 61) 3 10 11 2 0 396), none, none, some (fl_e0 (.aload_n 0) 1), some (fl_ef (.getfield 31) 3 10 3 2 0 388), none, none], [some (fl_ef (.getfield 72) 3 7 0 2 0 230), none, none, fl_el (fl_ef (.invokevirtual 258) 3 196 2 1 98 850) [true, true], none, none, some (fl_e0 (.aload_n 0) 1), some (fl_e0 (.aload_n 0) 1)], [some (fl_ef (.getfield 61) 3 10 11 2 0 396), none, none, some (fl_ef (.getfield 261) 3 2 0 2 0 283), none, none, some (fl_ea (.iload_n 1) 1 1), fl_el (fl_ef (.invokevirtual 223) 3 105 2 1 33 821) [true, true]], [none, none, fl_el (fl_ef (.invokevirtual 185) 3 125 2 1 58 739) [true, true], none, none, some (fl_e0 (.aload_n 0) 1), some (fl_ef (.getfield 61) 3 10 11 2 0 396), none], [none, some (fl_ef (.getfield 261) 3 2 0 2 0 283), none, none, some (fl_ea (.iload_n 1) 1 1), fl_el (fl_ef (.invokevirtual 223) 3 105 2 1 33 821) [], none, none], [fl_el (fl_ef (.invokestatic 174) 3 126 1 0 32 743) [], none, none, some (fl_e0 (.ireturn) 1)]]]
/-- FaultListsModel.classOf(I)I -/
def fl_c204 : List (List (List (Option fl_E))) := [[[some (fl_e0 (.aload_n 0) 1), some (fl_e0 (.iconst 0) 1), some (fl_ef (.putfield 3) 3 11 0 0 0 1121), none, none, fl_el (fl_e0 (.aload_n 0) 1) [true, true], some (fl_ea (.iload_n 1) 1 1), fl_el (fl_ef (.invokevirtual 268) 3 164 2 1 43 1440) [true, true]], [none, none, some (fl_ea (.ifCond .ne 5) 3 15), none, none, some (fl_ex1 (.iconst (-1)) 1 (-1)), some (fl_e0 (.ireturn) 1), some (fl_e0 (.aload_n 0) 1)], [fl_el (fl_ef (.invokevirtual 293) 3 200 1 1 59 1476) [true, true], none, none, some (fl_e0 (.aload_n 0) 1), some (fl_e0 (.iconst 0) 1), some (fl_ef (.putfield 11) 3 11 1 0 0 1122), none, none], [fl_el (fl_e0 (.aload_n 0) 1) [true, true], some (fl_e0 (.aload_n 0) 1), some (fl_e0 (.aload_n 0) 1), some (fl_ef (.getfield 101) 3 11 24 2 0 1145), none, none, some (fl_ea (.iload_n 1) 1 1), some (fl_ea (.iaload) 1 2)], [fl_el (fl_ef (.invokevirtual 296) 3 201 2 1 91 1490) [true, true], none, none, fl_el (fl_ef (.invokevirtual 250) 3 143 2 1 59 1405) [true, true], none, none, some (fl_e0 (.aload_n 0) 1), some (fl_e0 (.aload_n 0) 1)], [some (fl_ef (.getfield 101) 3 11 24 2 0 1145), none, none, some (fl_ea (.iload_n 1) 1 1), some (fl_ea (.iaload) 1 2), fl_el (fl_ef (.invokevirtual 296) 3 201 2 1 91 1490) [], none, none], [fl_el (fl_ef (.invokestatic 254) 3 144 1 0 64 1409) [], none, none, some (fl_e0 (.ireturn) 1)]]]
/-- FaultLists$Cells.fill(J)V -/
def fl_c205 : List (List (List (Option fl_E))) := [[[some (fl_e0 (.iconst 0) 1), some (fl_ea (.istore_n 3) 1 3), fl_el (fl_ea (.iload_n 3) 1 3) [true, true, false, true], some (fl_e0 (.aload_n 0) 1), some (fl_ef (.getfield 7) 3 1 0 2 0 45), none, none, some (fl_ea (.arraylength) 1 3)], [some (fl_ea (.if_icmp .ge 16) 3 24), none, none, some (fl_e0 (.aload_n 0) 1), some (fl_ef (.getfield 7) 3 1 0 2 0 45), none, none, some (fl_ea (.iload_n 3) 1 3)], [some (fl_ea (.lload_n 1) 1 1), some (fl_e0 (.lastore) 1), fl_el (fl_ew (.iinc 3 1) 3 3 0 0 0 0 1 0 []) [true, true, false, true], none, none, some (fl_ea (.goto (-19)) 3 2), none, none], [some (fl_e0 (.return_) 1)]]]
/-- FaultLists$Moves.forget()V -/
def fl_c206 : List (List (List (Option fl_E))) := [[[some (fl_e0 (.aload_n 0) 1), some (fl_ef (.getfield 23) 3 3 1 2 0 306), none, none, some (fl_e0 (.lconst 0) 1), fl_el (fl_ef (.invokevirtual 33) 3 205 2 1 65 889) [], none, none], [some (fl_e0 (.return_) 1)]]]
/-- FaultLists$Search.forget()V -/
def fl_c207 : List (List (List (Option fl_E))) := [[[some (fl_e0 (.aload_n 0) 1), some (fl_ef (.getfield 23) 3 8 1 2 0 320), none, none, fl_el (fl_ef (.invokevirtual 45) 3 206 1 1 19 885) [true], none, none, some (fl_e0 (.aload_n 0) 1)], [some (fl_ef (.getfield 27) 3 8 2 2 0 321), none, none, fl_el (fl_ef (.invokevirtual 45) 3 206 1 1 19 885) [], none, none, some (fl_e0 (.return_) 1)]]]
/-- FaultLists$Moves.startOf(LFaultLists$Net;)I -/
def fl_c208 : List (List (List (Option fl_E))) := [[[some (fl_e0 (.iconst 0) 1), some (fl_ea (.istore_n 1) 1 1), some (fl_ex1 (.iconst 1) 1 1), some (fl_ea (.istore_n 2) 1 2), some (fl_e0 (.aload_n 0) 1), some (fl_ef (.getfield 37) 3 4 0 0 0 76), none, none], [some (fl_ea (.istore_n 3) 1 3), fl_el (fl_ea (.iload_n 3) 1 3) [true, true, true, true], some (fl_e0 (.aload_n 0) 1), some (fl_ef (.getfield 43) 3 4 1 0 0 82), none, none, some (fl_ea (.if_icmp .ge 34) 3 48), none], [none, some (fl_e0 (.aload_n 0) 1), some (fl_ea (.iload_n 3) 1 3), fl_el (fl_ef (.invokevirtual 46) 3 65 2 1 36 900) [true, true, true, true], none, none, some (fl_ea (.ifCond .eq 20) 3 42), none], [none, some (fl_ea (.iload_n 1) 1 1), some (fl_ea (.iload_n 2) 1 2), some (fl_e0 (.aload_n 0) 1), some (fl_ef (.getfield 50) 3 4 8 2 0 116), none, none, some (fl_ea (.iload_n 3) 1 3)], [fl_el (fl_ef (.invokevirtual 53) 3 24 2 1 33 901) [true, false, true, true], none, none, some (fl_e0 (.imul) 1), some (fl_e0 (.iadd) 1), some (fl_ea (.istore_n 1) 1 1), some (fl_ea (.iload_n 2) 1 2), some (fl_ex1 (.iconst 3) 1 3)], [some (fl_e0 (.imul) 1), some (fl_ea (.istore_n 2) 1 2), fl_el (fl_ew (.iinc 3 1) 3 3 0 0 0 0 1 0 []) [true, true, true, true], none, none, some (fl_ea (.goto (-36)) 3 9), none, none], [some (fl_ea (.iload_n 1) 1 1), some (fl_e0 (.ireturn) 1)]]]
/-- FaultLists$Search.reach(IIII)V -/
def fl_c209 : List (List (List (Option fl_E))) := [[[some (fl_e0 (.aload_n 0) 1), some (fl_ef (.getfield 30) 3 8 3 2 0 322), none, none, some (fl_ea (.iload_n 1) 1 1), fl_el (fl_ef (.invokevirtual 97) 3 105 2 1 33 907) [true, true, true, true, true], none, none], [some (fl_e0 (.lconst 0) 1), some (fl_e0 (.lcmp) 1), some (fl_ea (.ifCond .ne 75) 3 85), none, none, some (fl_e0 (.aload_n 0) 1), some (fl_ef (.getfield 30) 3 8 3 2 0 322), none], [none, some (fl_ea (.iload_n 1) 1 1), some (fl_ew (.lconst 1) 1 0 0 0 0 0 0 1 []), fl_el (fl_ef (.invokevirtual 101) 3 20 3 1 65 908) [true, true, true, true, true], none, none, some (fl_e0 (.aload_n 0) 1), some (fl_ef (.getfield 33) 3 8 4 2 0 323)], [none, none, some (fl_e0 (.aload_n 0) 1), some (fl_ef (.getfield 56) 3 8 8 0 0 327), none, none, some (fl_ea (.iload_n 1) 1 1), some (fl_e0 (.i2l) 1)], [fl_el (fl_ef (.invokevirtual 101) 3 20 3 1 65 908) [true, false, true, true, true], none, none, some (fl_e0 (.aload_n 0) 1), some (fl_ef (.getfield 36) 3 8 5 2 0 324), none, none, some (fl_e0 (.aload_n 0) 1)], [some (fl_ef (.getfield 56) 3 8 8 0 0 327), none, none, some (fl_ea (.iload_n 2) 1 2), some (fl_e0 (.i2l) 1), fl_el (fl_ef (.invokevirtual 101) 3 20 3 1 65 908) [true, false, false, true, true], none, none], [some (fl_e0 (.aload_n 0) 1), some (fl_ef (.getfield 39) 3 8 6 2 0 325), none, none, some (fl_e0 (.aload_n 0) 1), some (fl_ef (.getfield 56) 3 8 8 0 0 327), none, none], [some (fl_ea (.iload_n 3) 1 3), some (fl_e0 (.i2l) 1), fl_el (fl_ef (.invokevirtual 101) 3 20 3 1 65 908) [true, false, false, false, true], none, none, some (fl_e0 (.aload_n 0) 1), some (fl_ef (.getfield 42) 3 8 7 2 0 326), none]], [[none, some (fl_e0 (.aload_n 0) 1), some (fl_ef (.getfield 56) 3 8 8 0 0 327), none, none, some (fl_ea (.iload 4) 2 4), none, some (fl_e0 (.i2l) 1)], [fl_el (fl_ef (.invokevirtual 101) 3 20 3 1 65 908) [true], none, none, some (fl_e0 (.aload_n 0) 1), some (fl_e0 (.dup) 1), some (fl_ef (.getfield 56) 3 8 8 0 0 327), none, none], [some (fl_ex1 (.iconst 1) 1 1), some (fl_e0 (.iadd) 1), some (fl_ef (.putfield 56) 3 8 8 0 0 327), none, none, fl_el (fl_e0 (.return_) 1) []]]]
/-- FaultLists$Moves.holdState(LFaultLists$Net;I)V -/
def fl_c210 : List (List (List (Option fl_E))) := [[[some (fl_ea (.iload_n 2) 1 2), some (fl_ea (.istore_n 3) 1 3), some (fl_ea (.aload_n 1) 1 1), some (fl_ef (.getfield 37) 3 4 0 0 0 76), none, none, some (fl_ea (.istore 4) 2 4), none], [fl_el (fl_ea (.iload 4) 2 4) [true, true, false, true, true], none, some (fl_ea (.aload_n 1) 1 1), some (fl_ef (.getfield 43) 3 4 1 0 0 82), none, none, some (fl_ea (.if_icmp .ge 34) 3 48), none], [none, some (fl_ea (.aload_n 1) 1 1), some (fl_ea (.iload 4) 2 4), none, fl_el (fl_ef (.invokevirtual 46) 3 65 2 1 36 900) [true, true, false, true, true], none, none, some (fl_ea (.ifCond .eq 19) 3 42)], [none, none, some (fl_e0 (.aload_n 0) 1), some (fl_ef (.getfield 14) 3 3 0 2 0 305), none, none, some (fl_ea (.iload 4) 2 4), none], [some (fl_ea (.iload_n 3) 1 3), some (fl_ex1 (.iconst 3) 1 3), some (fl_e0 (.irem) 1), fl_el (fl_ef (.invokevirtual 79) 3 25 3 1 57 924) [true, true, false, true, true], none, none, some (fl_ea (.iload_n 3) 1 3), some (fl_ex1 (.iconst 3) 1 3)], [some (fl_e0 (.idiv) 1), some (fl_ea (.istore_n 3) 1 3), fl_el (fl_ew (.iinc 4 1) 3 4 0 0 0 0 1 0 []) [true, true, false, true, true], none, none, some (fl_ea (.goto (-37)) 3 8), none, none], [some (fl_e0 (.return_) 1)]]]
/-- FaultLists$Net.patternOf(I)I -/
def fl_c211 : List (List (List (Option fl_E))) := [[[some (fl_e0 (.iconst 0) 1), some (fl_ea (.istore_n 2) 1 2), some (fl_e0 (.iconst 0) 1), some (fl_ea (.istore_n 3) 1 3), fl_el (fl_ea (.iload_n 3) 1 3) [true, true, true, true], some (fl_e0 (.aload_n 0) 1), some (fl_ef (.getfield 35) 3 4 0 0 0 74), none], [none, some (fl_ea (.if_icmp .ge 28) 3 37), none, none, some (fl_ea (.iload_n 2) 1 2), some (fl_ea (.iload_n 1) 1 1), some (fl_e0 (.aload_n 0) 1), some (fl_ef (.getfield 35) 3 4 0 0 0 74)], [none, none, some (fl_ex1 (.iconst 1) 1 1), some (fl_e0 (.isub) 1), some (fl_ea (.iload_n 3) 1 3), some (fl_e0 (.isub) 1), some (fl_e0 (.ishr) 1), some (fl_ex1 (.iconst 1) 1 1)], [some (fl_e0 (.iand) 1), some (fl_ex1 (.iconst 2) 1 2), some (fl_ea (.iload_n 3) 1 3), some (fl_e0 (.imul) 1), some (fl_e0 (.ishl) 1), some (fl_e0 (.ior) 1), some (fl_ea (.istore_n 2) 1 2), some (fl_ew (.iinc 3 1) 3 3 0 0 0 0 1 0 [])], [none, none, some (fl_ea (.goto (-30)) 3 4), none, none, some (fl_ea (.iload_n 2) 1 2), some (fl_e0 (.ireturn) 1)]]]
/-- FaultLists$Moves.write(LFaultLists$Net;I)V -/
def fl_c212 : List (List (List (Option fl_E))) := [[[some (fl_ea (.iload_n 2) 1 2), some (fl_ea (.istore_n 3) 1 3), some (fl_ea (.aload_n 1) 1 1), some (fl_ef (.getfield 37) 3 4 0 0 0 76), none, none, some (fl_ea (.istore 4) 2 4), none], [fl_el (fl_ea (.iload 4) 2 4) [true, true, true, true, true], none, some (fl_ea (.aload_n 1) 1 1), some (fl_ef (.getfield 43) 3 4 1 0 0 82), none, none, some (fl_ea (.if_icmp .ge 61) 3 75), none], [none, some (fl_ea (.aload_n 1) 1 1), some (fl_ea (.iload 4) 2 4), none, fl_el (fl_ef (.invokevirtual 46) 3 65 2 1 36 900) [true, true, true, true, true], none, none, some (fl_ea (.ifCond .eq 46) 3 69)], [none, none, some (fl_e0 (.aload_n 0) 1), some (fl_ef (.getfield 27) 3 3 2 2 0 307), none, none, some (fl_ea (.iload_n 3) 1 3), some (fl_e0 (.aload_n 0) 1)], [some (fl_ef (.getfield 14) 3 3 0 2 0 305), none, none, some (fl_ef (.getfield 83) 3 9 2 2 0 202), none, none, some (fl_ea (.iload 4) 2 4), none], [fl_el (fl_ef (.invokevirtual 57) 3 105 2 1 33 918) [true, true, true, true, true], none, none, fl_el (fl_ef (.invokevirtual 61) 3 20 3 1 65 919) [true, true, true, true, true], none, none, some (fl_e0 (.aload_n 0) 1), some (fl_ef (.getfield 30) 3 3 3 2 0 308)], [none, none, some (fl_ea (.iload_n 3) 1 3), some (fl_e0 (.aload_n 0) 1), some (fl_ef (.getfield 14) 3 3 0 2 0 305), none, none, some (fl_ef (.getfield 86) 3 9 3 2 0 205)], [none, none, some (fl_ea (.iload 4) 2 4), none, fl_el (fl_ef (.invokevirtual 57) 3 105 2 1 33 918) [true, true, true, true, true], none, none, fl_el (fl_ef (.invokevirtual 61) 3 20 3 1 65 919) [true, true, true, true, true]]], [[none, none, some (fl_ew (.iinc 3 1) 3 3 0 0 0 0 1 0 []), none, none, fl_el (fl_ew (.iinc 4 1) 3 4 0 0 0 0 1 0 []) [true, true, true, true, true], none, none], [some (fl_ea (.goto (-64)) 3 8), none, none, some (fl_e0 (.iconst 0) 1), some (fl_ea (.istore 4) 2 4), none, fl_el (fl_ea (.iload 4) 2 4) [true, true, true, false, true], none], [some (fl_ea (.aload_n 1) 1 1), some (fl_ef (.getfield 89) 3 4 4 0 0 96), none, none, some (fl_ea (.if_icmp .ge 70) 3 154), none, none, some (fl_ea (.aload_n 1) 1 1)], [some (fl_ef (.getfield 92) 3 4 10 2 0 125), none, none, some (fl_ea (.iload 4) 2 4), none, fl_el (fl_ef (.invokevirtual 53) 3 24 2 1 33 901) [true, true, true, false, true], none, none], [some (fl_ea (.istore 5) 2 5), none, some (fl_e0 (.aload_n 0) 1), some (fl_ef (.getfield 27) 3 3 2 2 0 307), none, none, some (fl_ea (.iload_n 2) 1 2), some (fl_ex1 (.iconst 3) 1 3)], [some (fl_e0 (.iadd) 1), some (fl_ea (.iload 4) 2 4), none, some (fl_e0 (.iadd) 1), some (fl_e0 (.aload_n 0) 1), some (fl_ef (.getfield 14) 3 3 0 2 0 305), none, none], [some (fl_ef (.getfield 95) 3 9 0 2 0 197), none, none, some (fl_ea (.iload 5) 2 5), none, fl_el (fl_ef (.invokevirtual 57) 3 105 2 1 33 918) [true, true, true, false, true, true], none, none], [fl_el (fl_ef (.invokevirtual 61) 3 20 3 1 65 919) [true, true, true, false, true, true], none, none, some (fl_e0 (.aload_n 0) 1), some (fl_ef (.getfield 30) 3 3 3 2 0 308), none, none, some (fl_ea (.iload_n 2) 1 2)]], [[some (fl_ex1 (.iconst 3) 1 3), some (fl_e0 (.iadd) 1), some (fl_ea (.iload 4) 2 4), none, some (fl_e0 (.iadd) 1), some (fl_e0 (.aload_n 0) 1), some (fl_ef (.getfield 14) 3 3 0 2 0 305), none], [none, some (fl_ef (.getfield 96) 3 9 1 2 0 200), none, none, some (fl_ea (.iload 5) 2 5), none, fl_el (fl_ef (.invokevirtual 57) 3 105 2 1 33 918) [true, true, true, false, true], none], [none, fl_el (fl_ef (.invokevirtual 61) 3 20 3 1 65 919) [true, true, true, false, true], none, none, some (fl_ew (.iinc 4 1) 3 4 0 0 0 0 1 0 []), none, none, some (fl_ea (.goto (-73)) 3 78)], [none, none, some (fl_e0 (.return_) 1)]]]
/-- FaultLists$Moves.entry(LFaultLists$Net;IIJ)I -/
def fl_c213 : List (List (List (Option fl_E))) := [[[some (fl_ea (.iload_n 2) 1 2), some (fl_ex1 (.bipush 16) 2 16), none, some (fl_e0 (.imul) 1), some (fl_ea (.iload_n 3) 1 3), some (fl_e0 (.iadd) 1), some (fl_ea (.istore 6) 2 6), none], [some (fl_e0 (.aload_n 0) 1), some (fl_ef (.getfield 23) 3 3 1 2 0 306), none, none, some (fl_ea (.iload 6) 2 6), none, fl_el (fl_ef (.invokevirtual 57) 3 105 2 1 33 918) [true, true, true, true, true, false, true], none], [none, some (fl_e0 (.lconst 0) 1), some (fl_e0 (.lcmp) 1), some (fl_ea (.ifCond .ne 44) 3 63), none, none, some (fl_e0 (.aload_n 0) 1), some (fl_ef (.getfield 23) 3 3 1 2 0 306)], [none, none, some (fl_ea (.iload 6) 2 6), none, some (fl_ew (.lconst 1) 1 0 0 0 0 0 0 1 []), fl_el (fl_ef (.invokevirtual 61) 3 20 3 1 65 919) [true, true, true, true, true, false, true], none, none], [some (fl_e0 (.aload_n 0) 1), some (fl_ea (.aload_n 1) 1 1), some (fl_ea (.iload_n 2) 1 2), fl_el (fl_ef (.invokevirtual 65) 3 210 3 1 83 920) [true, true, false, true, true, false, true], none, none, some (fl_e0 (.aload_n 0) 1), some (fl_ef (.getfield 14) 3 3 0 2 0 305)], [none, none, some (fl_ea (.aload_n 1) 1 1), some (fl_ea (.aload_n 1) 1 1), some (fl_ea (.iload_n 3) 1 3), fl_el (fl_ef (.invokevirtual 69) 3 211 2 1 68 925) [true, true, false, false, true, false, true], none, none], [some (fl_ea (.lload 4) 2 4), none, fl_el (fl_ef (.invokevirtual 72) 3 115 4 1 137 929) [true, true, false, false, false, false, true], none, none, some (fl_e0 (.aload_n 0) 1), some (fl_ea (.aload_n 1) 1 1), some (fl_ea (.iload 6) 2 6)], [none, some (fl_ex1 (.bipush 7) 2 7), none, some (fl_e0 (.imul) 1), fl_el (fl_ef (.invokevirtual 76) 3 212 3 1 99 930) [false, false, false, false, false, false, true], none, none, fl_el (fl_ea (.iload 6) 2 6) [false, false, false, false, false, false, true]]], [[none, some (fl_e0 (.ireturn) 1)]]]
/-- FaultLists$Moves.shows(LFaultLists$Net;IILFaultLists$Moves;I)Z -/
def fl_c214 : List (List (List (Option fl_E))) := [[[some (fl_e0 (.lconst 0) 1), some (fl_ea (.lstore 6) 2 6), none, some (fl_e0 (.iconst 0) 1), some (fl_ea (.istore 8) 2 8), none, fl_el (fl_ea (.iload 8) 2 8) [true, true, true, true, true, true, true, false, true], none], [some (fl_ea (.aload_n 1) 1 1), some (fl_ef (.getfield 89) 3 4 4 0 0 96), none, none, some (fl_ea (.if_icmp .ge 78) 3 90), none, none, some (fl_ea (.iload_n 2) 1 2)], [some (fl_ex1 (.bipush 7) 2 7), none, some (fl_e0 (.imul) 1), some (fl_ex1 (.iconst 3) 1 3), some (fl_e0 (.iadd) 1), some (fl_ea (.iload 8) 2 8), none, some (fl_e0 (.iadd) 1)], [some (fl_ea (.istore 9) 2 9), none, some (fl_ea (.iload 5) 2 5), none, some (fl_ex1 (.bipush 7) 2 7), none, some (fl_e0 (.imul) 1), some (fl_ex1 (.iconst 3) 1 3)], [some (fl_e0 (.iadd) 1), some (fl_ea (.iload 8) 2 8), none, some (fl_e0 (.iadd) 1), some (fl_ea (.istore 10) 2 10), none, some (fl_ea (.lload 6) 2 6), none], [some (fl_e0 (.aload_n 0) 1), some (fl_ef (.getfield 27) 3 3 2 2 0 307), none, none, some (fl_ea (.iload 9) 2 9), none, fl_el (fl_ef (.invokevirtual 57) 3 105 2 1 33 918) [true, true, true, true, true, true, false, false, true, true, true], none], [none, some (fl_ea (.aload 4) 2 4), none, some (fl_ef (.getfield 30) 3 3 3 2 0 308), none, none, some (fl_ea (.iload 10) 2 10), none], [fl_el (fl_ef (.invokevirtual 57) 3 105 2 1 33 918) [true, true, true, true, true, true, false, false, true, true, true], none, none, some (fl_e0 (.land) 1), some (fl_e0 (.aload_n 0) 1), some (fl_ef (.getfield 30) 3 3 3 2 0 308), none, none]], [[some (fl_ea (.iload 9) 2 9), none, fl_el (fl_ef (.invokevirtual 57) 3 105 2 1 33 918) [true, true, true, true, true, true, false, false, true, false, true], none, none, some (fl_ea (.aload 4) 2 4), none, some (fl_ef (.getfield 27) 3 3 2 2 0 307)], [none, none, some (fl_ea (.iload 10) 2 10), none, fl_el (fl_ef (.invokevirtual 57) 3 105 2 1 33 918) [true, true, true, true, true, true, false, false, true], none, none, some (fl_e0 (.land) 1)], [some (fl_e0 (.lor) 1), some (fl_e0 (.lor) 1), some (fl_ea (.lstore 6) 2 6), none, some (fl_ew (.iinc 8 1) 3 8 0 0 0 0 1 0 []), none, none, some (fl_ea (.goto (-81)) 3 6)], [none, none, some (fl_ea (.lload 6) 2 6), none, some (fl_ea (.iload_n 3) 1 3), fl_el (fl_ef (.invokestatic 100) 3 120 2 10 48 939) [], none, none], [some (fl_ef (.ireturn) 1 0 0 3 0 0)]]]
/-- FaultLists$Moves.stateBehind(LFaultLists$Net;II)I -/
def fl_c215 : List (List (List (Option fl_E))) := [[[some (fl_e0 (.iconst 0) 1), some (fl_ea (.istore 4) 2 4), none, some (fl_ex1 (.iconst 1) 1 1), some (fl_ea (.istore 5) 2 5), none, some (fl_e0 (.iconst 0) 1), some (fl_ea (.istore 6) 2 6)], [none, fl_el (fl_ea (.iload 6) 2 6) [true, true, true, true, true, true, true], none, some (fl_ea (.aload_n 1) 1 1), some (fl_ef (.getfield 97) 3 4 3 0 0 92), none, none, some (fl_ea (.if_icmp .ge 77) 3 92)], [none, none, some (fl_ea (.iload_n 2) 1 2), some (fl_ex1 (.bipush 7) 2 7), none, some (fl_e0 (.imul) 1), some (fl_ea (.iload 6) 2 6), none], [some (fl_e0 (.iadd) 1), some (fl_ea (.istore 7) 2 7), none, some (fl_e0 (.aload_n 0) 1), some (fl_ef (.getfield 27) 3 3 2 2 0 307), none, none, some (fl_ea (.iload 7) 2 7)], [none, fl_el (fl_ef (.invokevirtual 57) 3 105 2 1 33 918) [true, true, true, true, true, true, true, true], none, none, some (fl_ea (.iload_n 3) 1 3), fl_el (fl_ef (.invokestatic 100) 3 120 2 10 48 939) [true, true, true, true, true, true, true, true], none, none], [some (fl_ea (.ifCond .eq 7) 3 47), none, none, some (fl_ex1 (.iconst 1) 1 1), some (fl_ea (.goto 24) 3 68), none, none, some (fl_e0 (.aload_n 0) 1)], [some (fl_ef (.getfield 30) 3 3 3 2 0 308), none, none, some (fl_ea (.iload 7) 2 7), none, fl_el (fl_ef (.invokevirtual 57) 3 105 2 1 33 918) [true, true, true, true, true, true, true], none, none], [some (fl_ea (.iload_n 3) 1 3), fl_el (fl_ef (.invokestatic 100) 3 120 2 10 48 939) [true, true, true, true, true, true, true], none, none, some (fl_ea (.ifCond .eq 7) 3 67), none, none, some (fl_e0 (.iconst 0) 1)]], [[some (fl_ea (.goto 4) 3 68), none, none, some (fl_ex1 (.iconst 2) 1 2), some (fl_ea (.istore 8) 2 8), none, some (fl_ea (.iload 4) 2 4), none], [some (fl_ea (.iload 5) 2 5), none, some (fl_ea (.iload 8) 2 8), none, some (fl_e0 (.imul) 1), some (fl_e0 (.iadd) 1), some (fl_ea (.istore 4) 2 4), none], [some (fl_ea (.iload 5) 2 5), none, some (fl_ex1 (.iconst 3) 1 3), some (fl_e0 (.imul) 1), some (fl_ea (.istore 5) 2 5), none, some (fl_ew (.iinc 6 1) 3 6 0 0 0 0 1 0 []), none], [none, some (fl_ea (.goto (-80)) 3 9), none, none, some (fl_ea (.iload 4) 2 4), none, some (fl_e0 (.ireturn) 1)]]]
/-- FaultLists$Search.follow(LFaultLists$Net;III)Z -/
def fl_c216 : List (List (List (Option fl_E))) := [[[some (fl_e0 (.aload_n 0) 1), some (fl_ef (.getfield 33) 3 8 4 2 0 323), none, none, some (fl_ea (.iload_n 3) 1 3), fl_el (fl_ef (.invokevirtual 64) 3 24 2 1 33 909) [true, true, true, true, true], none, none], [some (fl_ea (.istore 5) 2 5), none, some (fl_e0 (.aload_n 0) 1), some (fl_ef (.getfield 23) 3 8 1 2 0 320), none, none, some (fl_ea (.aload_n 1) 1 1), some (fl_ea (.iload 5) 2 5)], [none, some (fl_ex1 (.bipush 27) 2 27), none, some (fl_e0 (.idiv) 1), some (fl_ea (.iload 4) 2 4), none, some (fl_e0 (.lconst 0) 1), fl_el (fl_ef (.invokevirtual 81) 3 213 5 1 115 914) [true, true, true, true, true, true]], [none, none, some (fl_ea (.istore 6) 2 6), none, some (fl_e0 (.aload_n 0) 1), some (fl_ef (.getfield 27) 3 8 2 2 0 321), none, none], [some (fl_ea (.aload_n 1) 1 1), some (fl_ea (.iload 5) 2 5), none, some (fl_ex1 (.bipush 27) 2 27), none, some (fl_e0 (.irem) 1), some (fl_ea (.iload 4) 2 4), none], [some (fl_ea (.aload_n 1) 1 1), fl_el (fl_ef (.invokevirtual 85) 3 110 1 1 20 934) [true, true, true, true, true, false, true], none, none, fl_el (fl_ef (.invokevirtual 81) 3 213 5 1 115 914) [true, true, true, true, true, false, true], none, none, some (fl_ea (.istore 7) 2 7)], [none, some (fl_e0 (.aload_n 0) 1), some (fl_ef (.getfield 27) 3 8 2 2 0 321), none, none, some (fl_ea (.aload_n 1) 1 1), some (fl_ea (.iload 7) 2 7), none], [some (fl_ea (.iload_n 2) 1 2), some (fl_e0 (.aload_n 0) 1), some (fl_ef (.getfield 23) 3 8 1 2 0 320), none, none, some (fl_ea (.iload 6) 2 6), none, fl_el (fl_ef (.invokevirtual 89) 3 214 6 1 179 935) [true, true, true, true, true, false, true, true]]], [[none, none, some (fl_ea (.ifCond .eq 5) 3 71), none, none, some (fl_ex1 (.iconst 1) 1 1), some (fl_ef (.ireturn) 1 0 0 3 0 0), some (fl_e0 (.aload_n 0) 1)], [some (fl_ef (.getfield 23) 3 8 1 2 0 320), none, none, some (fl_ea (.aload_n 1) 1 1), some (fl_ea (.iload 6) 2 6), none, some (fl_e0 (.iconst 0) 1), fl_el (fl_ef (.invokevirtual 93) 3 215 4 1 147 940) [true, true, true, true, true, false, false, true]], [none, none, some (fl_ea (.istore 8) 2 8), none, some (fl_e0 (.aload_n 0) 1), some (fl_ef (.getfield 27) 3 8 2 2 0 321), none, none], [some (fl_ea (.aload_n 1) 1 1), some (fl_ea (.iload 7) 2 7), none, some (fl_ea (.iload_n 2) 1 2), fl_el (fl_ef (.invokevirtual 93) 3 215 4 1 147 940) [true, false, false, true, true, false, false, false, true], none, none, some (fl_ea (.istore 9) 2 9)], [none, some (fl_e0 (.aload_n 0) 1), some (fl_ea (.iload 8) 2 8), none, some (fl_ex1 (.bipush 27) 2 27), none, some (fl_e0 (.imul) 1), some (fl_ea (.iload 9) 2 9)], [none, some (fl_e0 (.iadd) 1), some (fl_e0 (.aload_n 0) 1), some (fl_ef (.getfield 36) 3 8 5 2 0 324), none, none, some (fl_ea (.iload_n 3) 1 3), fl_el (fl_ef (.invokevirtual 64) 3 24 2 1 33 909) [false, false, false, true, true]], [none, none, some (fl_ex1 (.iconst 1) 1 1), some (fl_e0 (.iadd) 1), some (fl_ea (.iload_n 3) 1 3), some (fl_ea (.iload 4) 2 4), none, fl_el (fl_ef (.invokevirtual 60) 3 209 5 1 88 903) []], [none, none, some (fl_e0 (.iconst 0) 1), some (fl_ef (.ireturn) 1 0 0 3 0 0)]]]
/-- FaultLists$Search.trace(III)V -/
def fl_c217 : List (List (List (Option fl_E))) := [[[some (fl_ea (.iload_n 1) 1 1), some (fl_ea (.istore 4) 2 4), none, some (fl_e0 (.aload_n 0) 1), some (fl_ef (.getfield 16) 3 8 0 2 0 318), none, none, some (fl_ea (.iload_n 2) 1 2)], [some (fl_ea (.iload_n 3) 1 3), some (fl_e0 (.i2l) 1), fl_el (fl_ef (.invokevirtual 101) 3 20 3 1 65 908) [true, false, true, false, true], none, none, some (fl_ea (.iload_n 2) 1 2), some (fl_ex1 (.iconst 1) 1 1), some (fl_e0 (.isub) 1)], [some (fl_ea (.istore 5) 2 5), none, fl_el (fl_ea (.iload 5) 2 5) [true, false, false, false, true, true], none, some (fl_ea (.ifCond .lt 38) 3 58), none, none, some (fl_e0 (.aload_n 0) 1)], [some (fl_ef (.getfield 16) 3 8 0 2 0 318), none, none, some (fl_ea (.iload 5) 2 5), none, some (fl_e0 (.aload_n 0) 1), some (fl_ef (.getfield 42) 3 8 7 2 0 326), none], [none, some (fl_ea (.iload 4) 2 4), none, fl_el (fl_ef (.invokevirtual 97) 3 105 2 1 33 907) [true, false, false, false, true, true], none, none, fl_el (fl_ef (.invokevirtual 101) 3 20 3 1 65 908) [true, false, false, false, true, true], none], [none, some (fl_e0 (.aload_n 0) 1), some (fl_ef (.getfield 39) 3 8 6 2 0 325), none, none, some (fl_ea (.iload 4) 2 4), none, fl_el (fl_ef (.invokevirtual 64) 3 24 2 1 33 909) [true, false, false, false, false, true]], [none, none, some (fl_ea (.istore 4) 2 4), none, some (fl_ew (.iinc 5 (-1)) 3 5 0 0 0 0 (-1) 0 []), none, none, some (fl_ea (.goto (-37)) 3 18)], [none, none, some (fl_e0 (.return_) 1)]]]
/-- FaultLists$Search.fewest(LFaultLists$Net;I)I -/
def fl_c218 : List (List (List (Option fl_E))) := [[[some (fl_ea (.aload_n 1) 1 1), fl_el (fl_ef (.invokestatic 48) 3 208 1 0 64 897) [true, true, true], none, none, some (fl_ea (.istore_n 3) 1 3), some (fl_e0 (.aload_n 0) 1), some (fl_ef (.getfield 30) 3 8 3 2 0 322), none], [none, some (fl_e0 (.lconst 0) 1), fl_el (fl_ef (.invokevirtual 52) 3 205 2 1 65 902) [true, true, true, true], none, none, some (fl_e0 (.aload_n 0) 1), some (fl_e0 (.iconst 0) 1), some (fl_ef (.putfield 56) 3 8 8 0 0 327)], [none, none, fl_el (fl_e0 (.aload_n 0) 1) [true, true, true, true], some (fl_ea (.iload_n 3) 1 3), some (fl_ex1 (.bipush 27) 2 27), none, some (fl_e0 (.imul) 1), some (fl_ea (.iload_n 3) 1 3)], [some (fl_e0 (.iadd) 1), some (fl_e0 (.iconst 0) 1), some (fl_ex1 (.iconst (-1)) 1 (-1)), some (fl_e0 (.iconst 0) 1), fl_el (fl_ef (.invokevirtual 60) 3 209 5 1 88 903) [true, true, true], none, none, some (fl_e0 (.iconst 0) 1)], [some (fl_ea (.istore 4) 2 4), none, fl_el (fl_ea (.iload 4) 2 4) [true, true, true, false, true], none, some (fl_e0 (.aload_n 0) 1), some (fl_ef (.getfield 56) 3 8 8 0 0 327), none, none], [some (fl_ea (.if_icmp .ge 85) 3 125), none, none, some (fl_ea (.iload 4) 2 4), none, some (fl_ex1 (.sipush 729) 3 729), none, none], [some (fl_ea (.if_icmp .ge 77) 3 125), none, none, some (fl_e0 (.aload_n 0) 1), some (fl_ef (.getfield 36) 3 8 5 2 0 324), none, none, some (fl_ea (.iload 4) 2 4)], [none, fl_el (fl_ef (.invokevirtual 64) 3 24 2 1 33 909) [true, true, true, false, true], none, none, some (fl_ea (.istore 5) 2 5), none, some (fl_ea (.iload 5) 2 5), none]], [[some (fl_ex1 (.bipush 6) 2 6), none, some (fl_ea (.if_icmp .lt 5) 3 71), none, none, some (fl_e0 (.iconst 0) 1), some (fl_e0 (.ireturn) 1), some (fl_e0 (.iconst 0) 1)], [some (fl_ea (.istore 6) 2 6), none, fl_el (fl_ea (.iload 6) 2 6) [true, true, true, false, true, true, true], none, some (fl_ex1 (.iconst 1) 1 1), some (fl_ea (.aload_n 1) 1 1), some (fl_ef (.getfield 68) 3 4 0 0 0 77), none], [none, some (fl_e0 (.ishl) 1), some (fl_ea (.if_icmp .ge 37) 3 119), none, none, some (fl_e0 (.aload_n 0) 1), some (fl_ea (.aload_n 1) 1 1), some (fl_ea (.iload_n 2) 1 2)], [some (fl_ea (.iload 4) 2 4), none, some (fl_ea (.iload 6) 2 6), none, fl_el (fl_ef (.invokevirtual 73) 3 216 5 1 168 910) [true, true, true, false, true, true, true], none, none, some (fl_ea (.ifCond .eq 18) 3 113)], [none, none, some (fl_e0 (.aload_n 0) 1), some (fl_ea (.iload 4) 2 4), none, some (fl_ea (.iload 5) 2 5), none, some (fl_ea (.iload 6) 2 6)], [none, fl_el (fl_ef (.invokevirtual 77) 3 217 4 1 104 944) [false, false, false, false, false, true], none, none, some (fl_ea (.iload 5) 2 5), none, some (fl_ex1 (.iconst 1) 1 1), some (fl_e0 (.iadd) 1)], [some (fl_e0 (.ireturn) 1), some (fl_ew (.iinc 6 1) 3 6 0 0 0 0 1 0 []), none, none, some (fl_ea (.goto (-42)) 3 74), none, none, some (fl_ew (.iinc 4 1) 3 4 0 0 0 0 1 0 [])], [none, none, some (fl_ea (.goto (-88)) 3 34), none, none, fl_el (fl_e0 (.iconst 0) 1) [], some (fl_e0 (.ireturn) 1)]]]
/-- FaultLists.tests(I)I -/
def fl_c219 : List (List (List (Option fl_E))) := [[[some (fl_e0 (.aload_n 0) 1), some (fl_ef (.getfield 31) 3 10 3 2 0 388), none, none, some (fl_ef (.getfield 72) 3 7 0 2 0 230), none, none, some (fl_ea (.iload_n 1) 1 1)], [fl_el (fl_ef (.invokevirtual 198) 3 162 2 1 36 795) [true, true], none, none, some (fl_ea (.ifCond .ne 5) 3 16), none, none, some (fl_ex1 (.iconst (-1)) 1 (-1)), some (fl_e0 (.ireturn) 1)], [some (fl_e0 (.aload_n 0) 1), some (fl_ef (.getfield 68) 3 10 12 2 0 397), none, none, fl_el (fl_ef (.invokevirtual 264) 3 207 1 1 24 881) [true, true], none, none, some (fl_e0 (.aload_n 0) 1)], [some (fl_ef (.getfield 68) 3 10 12 2 0 397), none, none, some (fl_e0 (.aload_n 0) 1), some (fl_ef (.getfield 31) 3 10 3 2 0 388), none, none, some (fl_ef (.getfield 72) 3 7 0 2 0 230)], [none, none, some (fl_ea (.iload_n 1) 1 1), fl_el (fl_ef (.invokevirtual 267) 3 218 3 1 120 893) [true], none, none, some (fl_ea (.istore_n 2) 1 2), some (fl_ea (.iload_n 2) 1 2)], [some (fl_ea (.ifCond .ne 6) 3 46), none, none, some (fl_ex1 (.bipush (-2)) 2 (-2)), none, some (fl_e0 (.ireturn) 1), some (fl_e0 (.aload_n 0) 1), some (fl_ef (.getfield 18) 3 10 1 2 0 386)], [none, none, fl_el (fl_ef (.invokevirtual 103) 3 40 1 1 21 625) [true, false, true], none, none, some (fl_e0 (.iconst 0) 1), some (fl_ea (.istore_n 3) 1 3), fl_el (fl_ea (.iload_n 3) 1 3) [true, false, true, true]], [some (fl_ea (.iload_n 2) 1 2), some (fl_ea (.if_icmp .ge 27) 3 84), none, none, some (fl_e0 (.aload_n 0) 1), some (fl_ef (.getfield 18) 3 10 1 2 0 386), none, none]], [[some (fl_e0 (.aload_n 0) 1), some (fl_ef (.getfield 68) 3 10 12 2 0 397), none, none, some (fl_ef (.getfield 271) 3 8 0 2 0 319), none, none, some (fl_ea (.iload_n 3) 1 3)], [fl_el (fl_ef (.invokevirtual 223) 3 105 2 1 33 821) [true, false, true, true], none, none, fl_el (fl_ef (.invokevirtual 91) 3 32 2 1 53 433) [true, false, true, true], none, none, some (fl_ew (.iinc 3 1) 3 3 0 0 0 0 1 0 []), none], [none, some (fl_ea (.goto (-26)) 3 55), none, none, some (fl_ea (.iload_n 2) 1 2), some (fl_e0 (.ireturn) 1)]]]
/-- FaultListsModel.heldCode()I -/
def fl_c220 : List (List (List (Option fl_E))) := [[[some (fl_e0 (.iconst 0) 1), some (fl_ea (.istore_n 1) 1 1), some (fl_e0 (.iconst 0) 1), some (fl_ea (.istore_n 2) 1 2), fl_el (fl_ea (.iload_n 2) 1 2) [true, true, true], some (fl_e0 (.aload_n 0) 1), fl_el (fl_ef (.invokevirtual 126) 3 95 1 1 27 1319) [true, true, true], none], [none, some (fl_ea (.if_icmp .ge 32) 3 41), none, none, some (fl_e0 (.aload_n 0) 1), some (fl_ea (.iload_n 2) 1 2), fl_el (fl_ef (.invokevirtual 132) 3 97 2 1 43 1324) [true, true, true], none], [none, some (fl_ea (.ifCond .eq 16) 3 33), none, none, some (fl_ex1 (.iconst 3) 1 3), some (fl_ea (.iload_n 1) 1 1), some (fl_e0 (.imul) 1), some (fl_e0 (.aload_n 0) 1)], [some (fl_ef (.getfield 74) 3 11 14 2 0 1135), none, none, some (fl_ea (.iload_n 2) 1 2), some (fl_ea (.iaload) 1 2), some (fl_e0 (.iadd) 1), some (fl_ea (.goto 4) 3 34), none], [none, some (fl_ea (.iload_n 1) 1 1), some (fl_ea (.istore_n 1) 1 1), some (fl_ew (.iinc 2 1) 3 2 0 0 0 0 1 0 []), none, none, some (fl_ea (.goto (-34)) 3 4), none], [none, some (fl_ea (.iload_n 1) 1 1), some (fl_e0 (.ireturn) 1)]]]
/-- FaultListsModel.holdsAs(I)V -/
def fl_c221 : List (List (List (Option fl_E))) := [[[some (fl_ea (.iload_n 1) 1 1), some (fl_ea (.istore_n 2) 1 2), some (fl_e0 (.aload_n 0) 1), fl_el (fl_ef (.invokevirtual 126) 3 95 1 1 27 1319) [true, false, true], none, none, some (fl_ex1 (.iconst 1) 1 1), some (fl_e0 (.isub) 1)], [some (fl_ea (.istore_n 3) 1 3), fl_el (fl_ea (.iload_n 3) 1 3) [true, false, true, true], some (fl_ea (.ifCond .lt 30) 3 40), none, none, some (fl_e0 (.aload_n 0) 1), some (fl_ea (.iload_n 3) 1 3), fl_el (fl_ef (.invokevirtual 132) 3 97 2 1 43 1324) [true, false, true, true]], [none, none, some (fl_ea (.ifCond .eq 16) 3 34), none, none, some (fl_e0 (.aload_n 0) 1), some (fl_ef (.getfield 74) 3 11 14 2 0 1135), none], [none, some (fl_ea (.iload_n 3) 1 3), some (fl_ea (.iload_n 2) 1 2), some (fl_ex1 (.iconst 3) 1 3), some (fl_e0 (.irem) 1), some (fl_e0 (.iastore) 1), fl_el (fl_ea (.iload_n 2) 1 2) [true, false, true, true], some (fl_ex1 (.iconst 3) 1 3)], [some (fl_e0 (.idiv) 1), some (fl_ea (.istore_n 2) 1 2), fl_el (fl_ew (.iinc 3 (-1)) 3 3 0 0 0 0 (-1) 0 []) [true, false, true, true], none, none, some (fl_ea (.goto (-28)) 3 9), none, none], [some (fl_e0 (.return_) 1)]]]
/-- FaultListsModel.pattern(I)I -/
def fl_c222 : List (List (List (Option fl_E))) := [[[some (fl_e0 (.iconst 0) 1), some (fl_ea (.istore_n 2) 1 2), some (fl_e0 (.iconst 0) 1), some (fl_ea (.istore_n 3) 1 3), fl_el (fl_ea (.iload_n 3) 1 3) [true, true, true, true], some (fl_e0 (.aload_n 0) 1), fl_el (fl_ef (.invokevirtual 199) 3 129 1 1 27 1349) [true, true, true, true], none], [none, some (fl_ea (.if_icmp .ge 28) 3 37), none, none, some (fl_ea (.iload_n 2) 1 2), some (fl_ea (.iload_n 1) 1 1), some (fl_e0 (.aload_n 0) 1), fl_el (fl_ef (.invokevirtual 199) 3 129 1 1 27 1349) [true, true, false, true]], [none, none, some (fl_ex1 (.iconst 1) 1 1), some (fl_e0 (.isub) 1), some (fl_ea (.iload_n 3) 1 3), some (fl_e0 (.isub) 1), some (fl_e0 (.ishr) 1), some (fl_ex1 (.iconst 1) 1 1)], [some (fl_e0 (.iand) 1), some (fl_ex1 (.iconst 2) 1 2), some (fl_ea (.iload_n 3) 1 3), some (fl_e0 (.imul) 1), some (fl_e0 (.ishl) 1), some (fl_e0 (.ior) 1), some (fl_ea (.istore_n 2) 1 2), some (fl_ew (.iinc 3 1) 3 3 0 0 0 0 1 0 [])], [none, none, some (fl_ea (.goto (-30)) 3 4), none, none, some (fl_ea (.iload_n 2) 1 2), some (fl_e0 (.ireturn) 1)]]]
/-- FaultListsModel.laysRow(II)V -/
def fl_c223 : List (List (List (Option fl_E))) := [[[some (fl_e0 (.aload_n 0) 1), some (fl_ef (.getfield 116) 3 11 30 2 0 1151), none, none, some (fl_e0 (.aload_n 0) 1), some (fl_ef (.getfield 113) 3 11 28 2 0 1149), none, none], [some (fl_ea (.iload_n 1) 1 1), some (fl_ea (.iaload) 1 2), some (fl_ea (.iload_n 2) 1 2), some (fl_e0 (.iastore) 1), fl_el (fl_ea (.iload_n 1) 1 1) [true, true], some (fl_ea (.istore_n 3) 1 3), fl_el (fl_e0 (.aload_n 0) 1) [true, false, false, true], some (fl_ef (.getfield 107) 3 11 26 2 0 1147)], [none, none, some (fl_ea (.iload_n 3) 1 3), some (fl_ea (.iaload) 1 2), some (fl_ea (.ifCond .lt 32) 3 52), none, none, some (fl_e0 (.aload_n 0) 1)], [some (fl_ef (.getfield 116) 3 11 30 2 0 1151), none, none, some (fl_e0 (.aload_n 0) 1), some (fl_ef (.getfield 113) 3 11 28 2 0 1149), none, none, some (fl_ea (.iload_n 3) 1 3)], [some (fl_ea (.iaload) 1 2), some (fl_ex1 (.iconst 1) 1 1), some (fl_e0 (.isub) 1), some (fl_e0 (.aload_n 0) 1), some (fl_ef (.getfield 110) 3 11 27 2 0 1148), none, none, some (fl_ea (.iload_n 3) 1 3)], [some (fl_ea (.iaload) 1 2), some (fl_e0 (.iastore) 1), fl_el (fl_e0 (.aload_n 0) 1) [true, false, false, true], some (fl_ef (.getfield 107) 3 11 26 2 0 1147), none, none, some (fl_ea (.iload_n 3) 1 3), some (fl_ea (.iaload) 1 2)], [some (fl_ea (.istore_n 3) 1 3), some (fl_ea (.goto (-35)) 3 14), none, none, some (fl_e0 (.return_) 1)]]]
/-- FaultListsModel.isFound(I)Z -/
def fl_c224 : List (List (List (Option fl_E))) := [[[some (fl_e0 (.iconst 0) 1), some (fl_ea (.istore_n 2) 1 2), fl_el (fl_ea (.iload_n 2) 1 2) [true, true, true], some (fl_e0 (.aload_n 0) 1), some (fl_ef (.getfield 300) 3 11 29 0 0 1150), none, none, some (fl_ea (.if_icmp .ge 21) 3 28)], [none, none, some (fl_e0 (.aload_n 0) 1), some (fl_ef (.getfield 104) 3 11 25 2 0 1146), none, none, some (fl_ea (.iload_n 2) 1 2), some (fl_ea (.iaload) 1 2)], [some (fl_ea (.iload_n 1) 1 1), some (fl_ea (.if_icmp .ne 5) 3 22), none, none, some (fl_ex1 (.iconst 1) 1 1), some (fl_ef (.ireturn) 1 0 0 3 0 0), some (fl_ew (.iinc 2 1) 3 2 0 0 0 0 1 0 []), none], [none, some (fl_ea (.goto (-23)) 3 2), none, none, some (fl_e0 (.iconst 0) 1), some (fl_ef (.ireturn) 1 0 0 3 0 0)]]]
/-- FaultListsModel.testsFor(I)I -/
def fl_c225 : List (List (List (Option fl_E))) := [[[some (fl_e0 (.aload_n 0) 1), fl_el (fl_ef (.invokevirtual 217) 3 132 1 1 43 1369) [true, true], none, none, some (fl_e0 (.aload_n 0) 1), some (fl_ef (.getfield 104) 3 11 25 2 0 1146), none, none], [some (fl_e0 (.iconst 0) 1), some (fl_ex1 (.bipush 27) 2 27), none, some (fl_e0 (.aload_n 0) 1), fl_el (fl_ef (.invokevirtual 303) 3 220 1 1 59 1506) [true, true], none, none, some (fl_e0 (.imul) 1)], [some (fl_e0 (.aload_n 0) 1), fl_el (fl_ef (.invokevirtual 303) 3 220 1 1 59 1506) [true, true], none, none, some (fl_e0 (.iadd) 1), some (fl_e0 (.iastore) 1), fl_el (fl_e0 (.aload_n 0) 1) [true, true], some (fl_ef (.getfield 107) 3 11 26 2 0 1147)], [none, none, some (fl_e0 (.iconst 0) 1), some (fl_ex1 (.iconst (-1)) 1 (-1)), some (fl_e0 (.iastore) 1), fl_el (fl_e0 (.aload_n 0) 1) [true, true], some (fl_ef (.getfield 113) 3 11 28 2 0 1149), none], [none, some (fl_e0 (.iconst 0) 1), some (fl_e0 (.iconst 0) 1), some (fl_e0 (.iastore) 1), fl_el (fl_e0 (.aload_n 0) 1) [true, true], some (fl_ex1 (.iconst 1) 1 1), some (fl_ef (.putfield 300) 3 11 29 0 0 1150), none], [none, fl_el (fl_e0 (.iconst 0) 1) [true, true], some (fl_ea (.istore_n 2) 1 2), fl_el (fl_ea (.iload_n 2) 1 2) [true, true, true], some (fl_e0 (.aload_n 0) 1), some (fl_ef (.getfield 300) 3 11 29 0 0 1150), none, none], [some (fl_ea (.if_icmp .ge 227) 3 275), none, none, some (fl_e0 (.iconst 0) 1), some (fl_ea (.istore_n 3) 1 3), fl_el (fl_ea (.iload_n 3) 1 3) [true, true, true, true], some (fl_ex1 (.iconst 1) 1 1), some (fl_e0 (.aload_n 0) 1)], [fl_el (fl_ef (.invokevirtual 199) 3 129 1 1 27 1349) [true, true, true, true], none, none, some (fl_e0 (.ishl) 1), some (fl_ea (.if_icmp .ge 209) 3 269), none, none, some (fl_e0 (.aload_n 0) 1)]], [[some (fl_ef (.getfield 113) 3 11 28 2 0 1149), none, none, some (fl_ea (.iload_n 2) 1 2), some (fl_ea (.iaload) 1 2), some (fl_ex1 (.bipush 6) 2 6), none, some (fl_ea (.if_icmp .ge 198) 3 269)], [none, none, some (fl_e0 (.aload_n 0) 1), some (fl_e0 (.aload_n 0) 1), some (fl_ef (.getfield 104) 3 11 25 2 0 1146), none, none, some (fl_ea (.iload_n 2) 1 2)], [some (fl_ea (.iaload) 1 2), some (fl_ex1 (.bipush 27) 2 27), none, some (fl_e0 (.idiv) 1), fl_el (fl_ef (.invokevirtual 306) 3 221 2 1 75 1510) [true, true, true, true], none, none, some (fl_e0 (.aload_n 0) 1)], [some (fl_e0 (.aload_n 0) 1), some (fl_ea (.iload_n 3) 1 3), fl_el (fl_ef (.invokevirtual 309) 3 222 2 1 75 1514) [true, true, true, true], none, none, some (fl_ex1 (.iconst (-1)) 1 (-1)), fl_el (fl_ef (.invokevirtual 220) 3 137 3 1 75 1373) [true, true, true, true], none], [none, some (fl_e0 (.iconst 0) 1), some (fl_ea (.istore 4) 2 4), none, fl_el (fl_ea (.iload 4) 2 4) [true, true, true, true, true], none, some (fl_e0 (.aload_n 0) 1), fl_el (fl_ef (.invokevirtual 126) 3 95 1 1 27 1319) [true, true, true, true, true]], [none, none, some (fl_ea (.if_icmp .ge 23) 3 129), none, none, some (fl_e0 (.aload_n 0) 1), some (fl_ef (.getfield 80) 3 11 17 2 0 1138), none], [none, some (fl_ea (.iload 4) 2 4), none, some (fl_e0 (.aload_n 0) 1), some (fl_ef (.getfield 71) 3 11 13 2 0 1134), none, none, some (fl_ea (.iload 4) 2 4)], [none, some (fl_ea (.iaload) 1 2), some (fl_e0 (.iastore) 1), fl_el (fl_ew (.iinc 4 1) 3 4 0 0 0 0 1 0 []) [true, true, true, true, true], none, none, some (fl_ea (.goto (-26)) 3 100), none]], [[none, some (fl_e0 (.aload_n 0) 1), fl_el (fl_ef (.invokevirtual 303) 3 220 1 1 59 1506) [true, true, true, true], none, none, some (fl_ea (.istore 4) 2 4), none, some (fl_e0 (.aload_n 0) 1)], [some (fl_e0 (.aload_n 0) 1), some (fl_ef (.getfield 104) 3 11 25 2 0 1146), none, none, some (fl_ea (.iload_n 2) 1 2), some (fl_ea (.iaload) 1 2), some (fl_ex1 (.bipush 27) 2 27), none], [some (fl_e0 (.irem) 1), fl_el (fl_ef (.invokevirtual 306) 3 221 2 1 75 1510) [true, true, true, true, true], none, none, some (fl_e0 (.aload_n 0) 1), some (fl_e0 (.aload_n 0) 1), some (fl_ea (.iload_n 3) 1 3), fl_el (fl_ef (.invokevirtual 309) 3 222 2 1 75 1514) [true, true, true, true, true]], [none, none, some (fl_ea (.iload_n 1) 1 1), fl_el (fl_ef (.invokevirtual 220) 3 137 3 1 75 1373) [true, true, true, true, true], none, none, some (fl_e0 (.aload_n 0) 1), some (fl_e0 (.iconst 0) 1)], [fl_el (fl_ef (.invokevirtual 223) 3 139 2 1 107 1396) [true, true, true, true, true], none, none, some (fl_ea (.ifCond .eq 18) 3 181), none, none, some (fl_e0 (.aload_n 0) 1), some (fl_ea (.iload_n 2) 1 2)], [some (fl_ea (.iload_n 3) 1 3), fl_el (fl_ef (.invokevirtual 312) 3 223 3 1 75 1518) [true, false, true], none, none, some (fl_e0 (.aload_n 0) 1), some (fl_ef (.getfield 113) 3 11 28 2 0 1149), none, none], [some (fl_ea (.iload_n 2) 1 2), some (fl_ea (.iaload) 1 2), some (fl_ex1 (.iconst 1) 1 1), some (fl_e0 (.iadd) 1), some (fl_e0 (.ireturn) 1), some (fl_ex1 (.bipush 27) 2 27), none, some (fl_ea (.iload 4) 2 4)], [none, some (fl_e0 (.imul) 1), some (fl_e0 (.aload_n 0) 1), fl_el (fl_ef (.invokevirtual 303) 3 220 1 1 59 1506) [true, true, true, true], none, none, some (fl_e0 (.iadd) 1), some (fl_ea (.istore 5) 2 5)]], [[none, some (fl_e0 (.aload_n 0) 1), some (fl_ea (.iload 5) 2 5), none, fl_el (fl_ef (.invokevirtual 315) 3 224 2 1 59 1522) [true, true, true, true, false, true], none, none, some (fl_ea (.ifCond .eq 6) 3 205)], [none, none, some (fl_ea (.goto 61) 3 263), none, none, some (fl_e0 (.aload_n 0) 1), some (fl_ef (.getfield 104) 3 11 25 2 0 1146), none], [none, some (fl_e0 (.aload_n 0) 1), some (fl_ef (.getfield 300) 3 11 29 0 0 1150), none, none, some (fl_ea (.iload 5) 2 5), none, some (fl_e0 (.iastore) 1)], [fl_el (fl_e0 (.aload_n 0) 1) [true, true, true, true], some (fl_ef (.getfield 107) 3 11 26 2 0 1147), none, none, some (fl_e0 (.aload_n 0) 1), some (fl_ef (.getfield 300) 3 11 29 0 0 1150), none, none], [some (fl_ea (.iload_n 2) 1 2), some (fl_e0 (.iastore) 1), fl_el (fl_e0 (.aload_n 0) 1) [true, true, true, true], some (fl_ef (.getfield 110) 3 11 27 2 0 1148), none, none, some (fl_e0 (.aload_n 0) 1), some (fl_ef (.getfield 300) 3 11 29 0 0 1150)], [none, none, some (fl_ea (.iload_n 3) 1 3), some (fl_e0 (.iastore) 1), fl_el (fl_e0 (.aload_n 0) 1) [true, true, true, true], some (fl_ef (.getfield 113) 3 11 28 2 0 1149), none, none], [some (fl_e0 (.aload_n 0) 1), some (fl_ef (.getfield 300) 3 11 29 0 0 1150), none, none, some (fl_e0 (.aload_n 0) 1), some (fl_ef (.getfield 113) 3 11 28 2 0 1149), none, none], [some (fl_ea (.iload_n 2) 1 2), some (fl_ea (.iaload) 1 2), some (fl_ex1 (.iconst 1) 1 1), some (fl_e0 (.iadd) 1), some (fl_e0 (.iastore) 1), fl_el (fl_e0 (.aload_n 0) 1) [true, true, true, true], some (fl_e0 (.dup) 1), some (fl_ef (.getfield 300) 3 11 29 0 0 1150)]], [[none, none, some (fl_ex1 (.iconst 1) 1 1), some (fl_e0 (.iadd) 1), some (fl_ef (.putfield 300) 3 11 29 0 0 1150), none, none, fl_el (fl_ew (.iinc 3 1) 3 3 0 0 0 0 1 0 []) [true, true, true, true]], [none, none, some (fl_ea (.goto (-213)) 3 53), none, none, fl_el (fl_ew (.iinc 2 1) 3 2 0 0 0 0 1 0 []) [true, true, true], none, none], [some (fl_ea (.goto (-229)) 3 43), none, none, some (fl_ex1 (.iconst (-1)) 1 (-1)), some (fl_e0 (.ireturn) 1)]]]
/-- FaultListsModel.tests(I)I -/
def fl_c226 : List (List (List (Option fl_E))) := [[[some (fl_e0 (.aload_n 0) 1), some (fl_e0 (.iconst 0) 1), some (fl_ef (.putfield 3) 3 11 0 0 0 1121), none, none, fl_el (fl_e0 (.aload_n 0) 1) [true, true], some (fl_ea (.iload_n 1) 1 1), fl_el (fl_ef (.invokevirtual 268) 3 164 2 1 43 1440) [true, true]], [none, none, some (fl_ea (.ifCond .ne 5) 3 15), none, none, some (fl_ex1 (.iconst (-1)) 1 (-1)), some (fl_e0 (.ireturn) 1), some (fl_e0 (.aload_n 0) 1)], [some (fl_ea (.iload_n 1) 1 1), fl_el (fl_ef (.invokevirtual 318) 3 225 2 1 107 1502) [true], none, none, some (fl_ea (.istore_n 2) 1 2), some (fl_ea (.iload_n 2) 1 2), some (fl_ea (.ifCond .ge 6) 3 28), none], [none, some (fl_ex1 (.bipush (-2)) 2 (-2)), none, some (fl_e0 (.ireturn) 1), some (fl_e0 (.aload_n 0) 1), some (fl_e0 (.iconst 0) 1), some (fl_ef (.putfield 11) 3 11 1 0 0 1122), none], [none, fl_el (fl_e0 (.iconst 0) 1) [true, false, true], some (fl_ea (.istore_n 3) 1 3), fl_el (fl_ea (.iload_n 3) 1 3) [true, false, true, true], some (fl_ea (.iload_n 2) 1 2), some (fl_ea (.if_icmp .ge 20) 3 57), none, none], [some (fl_e0 (.aload_n 0) 1), some (fl_e0 (.aload_n 0) 1), some (fl_ef (.getfield 116) 3 11 30 2 0 1151), none, none, some (fl_ea (.iload_n 3) 1 3), some (fl_ea (.iaload) 1 2), some (fl_e0 (.i2l) 1)], [fl_el (fl_ef (.invokevirtual 250) 3 143 2 1 59 1405) [true, false, true, true], none, none, some (fl_ew (.iinc 3 1) 3 3 0 0 0 0 1 0 []), none, none, some (fl_ea (.goto (-19)) 3 35), none], [none, some (fl_ea (.iload_n 2) 1 2), some (fl_e0 (.ireturn) 1)]]]
/-- FaultLists.hidden()I -/
def fl_c227 : List (List (List (Option fl_E))) := [[[some (fl_e0 (.lconst 0) 1), some (fl_ea (.lstore_n 1) 1 1), some (fl_e0 (.lconst 0) 1), some (fl_ea (.lstore_n 3) 1 3), some (fl_e0 (.iconst 0) 1), some (fl_ea (.istore 5) 2 5), none, some (fl_e0 (.aload_n 0) 1)], [some (fl_ef (.getfield 68) 3 10 12 2 0 397), none, none, fl_el (fl_ef (.invokevirtual 264) 3 207 1 1 24 881) [true, true, false, true, false, true], none, none, some (fl_e0 (.iconst 0) 1), some (fl_ea (.istore 6) 2 6)], [none, fl_el (fl_ea (.iload 6) 2 6) [true, true, false, true, false, true, true], none, some (fl_e0 (.aload_n 0) 1), some (fl_ef (.getfield 31) 3 10 3 2 0 388), none, none, some (fl_ef (.getfield 72) 3 7 0 2 0 230)], [none, none, fl_el (fl_ef (.invokevirtual 229) 3 66 1 1 20 827) [true, true, false, true, false, true, true], none, none, some (fl_ea (.if_icmp .ge 74) 3 103), none, none], [some (fl_e0 (.aload_n 0) 1), some (fl_ef (.getfield 68) 3 10 12 2 0 397), none, none, some (fl_e0 (.aload_n 0) 1), some (fl_ef (.getfield 31) 3 10 3 2 0 388), none, none], [some (fl_ef (.getfield 72) 3 7 0 2 0 230), none, none, some (fl_ea (.iload 6) 2 6), none, fl_el (fl_ef (.invokevirtual 267) 3 218 3 1 120 893) [true, true, false, true, false, true, true], none, none], [some (fl_ea (.istore 7) 2 7), none, some (fl_ea (.iload 7) 2 7), none, some (fl_ea (.ifCond .ne 13) 3 65), none, none, some (fl_ea (.lload_n 1) 1 1)], [some (fl_ew (.lconst 1) 1 0 0 0 0 0 0 1 []), some (fl_ea (.iload 6) 2 6), none, some (fl_e0 (.lshl) 1), some (fl_e0 (.lor) 1), some (fl_ea (.lstore_n 1) 1 1), some (fl_ea (.goto 35) 3 97), none]], [[none, some (fl_ea (.iload 7) 2 7), none, some (fl_ea (.iload 5) 2 5), none, some (fl_ea (.if_icmp .lt 28) 3 97), none, none], [some (fl_ea (.iload 7) 2 7), none, some (fl_ea (.iload 5) 2 5), none, some (fl_ea (.if_icmp .le 10) 3 86), none, none, some (fl_ew (.lconst 1) 1 0 0 0 0 0 0 1 [])], [some (fl_ea (.iload 6) 2 6), none, some (fl_e0 (.lshl) 1), some (fl_ea (.goto 9) 3 92), none, none, some (fl_ea (.lload_n 3) 1 3), some (fl_ew (.lconst 1) 1 0 0 0 0 0 0 1 [])], [some (fl_ea (.iload 6) 2 6), none, some (fl_e0 (.lshl) 1), some (fl_e0 (.lor) 1), some (fl_ea (.lstore_n 3) 1 3), some (fl_ea (.iload 7) 2 7), none, some (fl_ea (.istore 5) 2 5)], [none, fl_el (fl_ew (.iinc 6 1) 3 6 0 0 0 0 1 0 []) [true, true, false, true, false, true, true], none, none, some (fl_ea (.goto (-83)) 3 17), none, none, some (fl_e0 (.aload_n 0) 1)], [some (fl_ea (.lload_n 1) 1 1), fl_el (fl_ef (.invokevirtual 185) 3 125 2 1 58 739) [true, true, false, true, false, true], none, none, some (fl_e0 (.aload_n 0) 1), some (fl_ef (.getfield 18) 3 10 1 2 0 386), none, none], [some (fl_ea (.lload_n 3) 1 3), fl_el (fl_ef (.invokevirtual 91) 3 32 2 1 53 433) [true, true, false, false, false, true], none, none, some (fl_e0 (.aload_n 0) 1), some (fl_ef (.getfield 18) 3 10 1 2 0 386), none, none], [some (fl_ea (.iload 5) 2 5), none, some (fl_e0 (.i2l) 1), fl_el (fl_ef (.invokevirtual 91) 3 32 2 1 53 433) [false, true], none, none, some (fl_ea (.lload_n 1) 1 1), fl_el (fl_ef (.invokestatic 174) 3 126 1 0 32 743) []]], [[none, none, some (fl_e0 (.ireturn) 1)]]]
/-- FaultListsModel.hidden()I -/
def fl_c228 : List (List (List (Option fl_E))) := [[[some (fl_e0 (.aload_n 0) 1), some (fl_e0 (.iconst 0) 1), some (fl_ef (.putfield 3) 3 11 0 0 0 1121), none, none, fl_el (fl_e0 (.lconst 0) 1) [true], some (fl_ea (.lstore_n 1) 1 1), some (fl_e0 (.lconst 0) 1)], [some (fl_ea (.lstore_n 3) 1 3), some (fl_e0 (.iconst 0) 1), some (fl_ea (.istore 5) 2 5), none, some (fl_e0 (.iconst 0) 1), some (fl_ea (.istore 6) 2 6), none, fl_el (fl_ea (.iload 6) 2 6) [true, true, false, true, false, true, true]], [none, some (fl_e0 (.aload_n 0) 1), fl_el (fl_ef (.invokevirtual 129) 3 88 1 1 27 1303) [true, true, false, true, false, true, true], none, none, some (fl_ea (.if_icmp .ge 79) 3 100), none, none], [some (fl_e0 (.aload_n 0) 1), some (fl_ea (.iload 6) 2 6), none, fl_el (fl_ef (.invokevirtual 318) 3 225 2 1 107 1502) [true, true, false, true, false, true, true], none, none, some (fl_ea (.istore 7) 2 7), none], [some (fl_ea (.lload_n 1) 1 1), some (fl_ea (.iload 7) 2 7), none, some (fl_ea (.ifCond .ge 10) 3 45), none, none, some (fl_ew (.lconst 1) 1 0 0 0 0 0 0 1 []), some (fl_ea (.iload 6) 2 6)], [none, some (fl_e0 (.lshl) 1), some (fl_ea (.goto 4) 3 46), none, none, some (fl_e0 (.lconst 0) 1), some (fl_e0 (.lor) 1), some (fl_ea (.lstore_n 1) 1 1)], [some (fl_ea (.iload 7) 2 7), none, some (fl_ea (.iload 5) 2 5), none, some (fl_ea (.if_icmp .le 10) 3 62), none, none, some (fl_ew (.lconst 1) 1 0 0 0 0 0 0 1 [])], [some (fl_ea (.iload 6) 2 6), none, some (fl_e0 (.lshl) 1), some (fl_ea (.goto 25) 3 84), none, none, some (fl_ea (.iload 7) 2 7), none]], [[some (fl_ea (.iload 5) 2 5), none, some (fl_ea (.if_icmp .ne 17) 3 83), none, none, some (fl_ea (.iload 7) 2 7), none, some (fl_ea (.ifCond .le 12) 3 83)], [none, none, some (fl_ea (.lload_n 3) 1 3), some (fl_ew (.lconst 1) 1 0 0 0 0 0 0 1 []), some (fl_ea (.iload 6) 2 6), none, some (fl_e0 (.lshl) 1), some (fl_e0 (.lor) 1)], [some (fl_ea (.goto 4) 3 84), none, none, fl_el (fl_ea (.lload_n 3) 1 3) [true, true, false, true, false, true, true, true], some (fl_ea (.lstore_n 3) 1 3), some (fl_ea (.iload 5) 2 5), none, some (fl_ea (.iload 7) 2 7)], [none, fl_el (fl_ef (.invokestatic 284) 3 50 2 0 32 1489) [true, true, false, true, false, false, true], none, none, some (fl_ea (.istore 5) 2 5), none, some (fl_ew (.iinc 6 1) 3 6 0 0 0 0 1 0 []), none], [none, some (fl_ea (.goto (-82)) 3 15), none, none, some (fl_e0 (.aload_n 0) 1), some (fl_e0 (.iconst 0) 1), some (fl_ef (.putfield 11) 3 11 1 0 0 1122), none], [none, fl_el (fl_e0 (.aload_n 0) 1) [true, true, false, true, false, true], some (fl_ea (.lload_n 1) 1 1), fl_el (fl_ef (.invokevirtual 250) 3 143 2 1 59 1405) [true, true, false, true, false, true], none, none, some (fl_e0 (.aload_n 0) 1), some (fl_ea (.lload_n 3) 1 3)], [fl_el (fl_ef (.invokevirtual 250) 3 143 2 1 59 1405) [true, true, false, false, false, true], none, none, some (fl_e0 (.aload_n 0) 1), some (fl_ea (.iload 5) 2 5), none, some (fl_e0 (.i2l) 1), fl_el (fl_ef (.invokevirtual 250) 3 143 2 1 59 1405) [false, true]], [none, none, some (fl_ea (.lload_n 1) 1 1), fl_el (fl_ef (.invokestatic 254) 3 144 1 0 64 1409) [], none, none, some (fl_e0 (.ireturn) 1)]]]
/-- FaultLists.catchesAll(I)Z -/
def fl_c229 : List (List (List (Option fl_E))) := [[[some (fl_e0 (.aload_n 0) 1), some (fl_ef (.getfield 31) 3 10 3 2 0 388), none, none, some (fl_ef (.getfield 72) 3 7 0 2 0 230), none, none, some (fl_ea (.astore_n 2) 1 2)], [some (fl_e0 (.aload_n 0) 1), some (fl_ef (.getfield 31) 3 10 3 2 0 388), none, none, some (fl_ef (.getfield 213) 3 7 5 1 0 240), none, none, some (fl_ea (.lstore_n 3) 1 3)], [some (fl_e0 (.aload_n 0) 1), some (fl_ef (.getfield 47) 3 10 9 2 0 394), none, none, some (fl_ea (.aload_n 2) 1 2), fl_el (fl_ef (.invokevirtual 289) 3 27 2 1 32 960) [true, true, true, true], none, none], [some (fl_e0 (.iconst 0) 1), some (fl_ea (.istore 5) 2 5), none, fl_el (fl_ea (.iload 5) 2 5) [true, true, true, true, false, true], none, some (fl_e0 (.aload_n 0) 1), some (fl_ef (.getfield 31) 3 10 3 2 0 388), none], [none, some (fl_ef (.getfield 167) 3 7 3 0 0 236), none, none, some (fl_ea (.if_icmp .ge 64) 3 100), none, none, some (fl_ea (.lload_n 3) 1 3)], [some (fl_e0 (.lconst 0) 1), some (fl_e0 (.lcmp) 1), some (fl_ea (.ifCond .eq 58) 3 100), none, none, some (fl_ea (.iload_n 1) 1 1), some (fl_e0 (.i2l) 1), some (fl_ea (.iload 5) 2 5)], [none, fl_el (fl_ef (.invokestatic 216) 3 120 2 0 48 820) [true, true, true, true, false, true], none, none, some (fl_ea (.ifCond .eq 42) 3 94), none, none, some (fl_e0 (.aload_n 0) 1)], [some (fl_ef (.getfield 47) 3 10 9 2 0 394), none, none, some (fl_ea (.aload_n 2) 1 2), some (fl_e0 (.aload_n 0) 1), some (fl_ef (.getfield 31) 3 10 3 2 0 388), none, none]], [[some (fl_ef (.getfield 236) 3 7 2 2 0 234), none, none, some (fl_ea (.iload 5) 2 5), none, fl_el (fl_ef (.invokevirtual 135) 3 24 2 1 33 822) [true, true, true, true, false, true], none, none], [some (fl_ea (.aload_n 2) 1 2), fl_el (fl_ef (.invokevirtual 239) 3 110 1 1 20 837) [true, true, true, true, false, true], none, none, fl_el (fl_ef (.invokevirtual 292) 3 116 4 1 80 961) [true, true, true, true, false, true], none, none, some (fl_ea (.lload_n 3) 1 3)], [some (fl_e0 (.aload_n 0) 1), some (fl_ef (.getfield 47) 3 10 9 2 0 394), none, none, some (fl_ea (.aload_n 2) 1 2), fl_el (fl_ef (.invokevirtual 307) 3 119 2 1 80 962) [true, true, true, false, false, true], none, none], [some (fl_ew (.ldc2_w 311) 3 0 0 0 0 738 0 (-1) []), none, none, some (fl_e0 (.lxor) 1), some (fl_e0 (.land) 1), some (fl_ea (.lstore_n 3) 1 3), fl_el (fl_ew (.iinc 5 1) 3 5 0 0 0 0 1 0 []) [true, true, true, true, false, true], none], [none, some (fl_ea (.goto (-70)) 3 27), none, none, fl_el (fl_ea (.lload_n 3) 1 3) [false, false, false, true], some (fl_e0 (.lconst 0) 1), some (fl_e0 (.lcmp) 1), some (fl_ea (.ifCond .ne 7) 3 110)], [none, none, some (fl_ex1 (.iconst 1) 1 1), some (fl_ea (.goto 4) 3 111), none, none, some (fl_e0 (.iconst 0) 1), some (fl_ef (.ireturn) 1 0 0 3 0 0)]]]
/-- FaultLists.needless()I -/
def fl_c230 : List (List (List (Option fl_E))) := [[[some (fl_ex1 (.iconst 1) 1 1), some (fl_e0 (.aload_n 0) 1), some (fl_ef (.getfield 31) 3 10 3 2 0 388), none, none, some (fl_ef (.getfield 167) 3 7 3 0 0 236), none, none], [some (fl_e0 (.ishl) 1), some (fl_ex1 (.iconst 1) 1 1), some (fl_e0 (.isub) 1), some (fl_ea (.istore_n 1) 1 1), some (fl_e0 (.iconst 0) 1), some (fl_ea (.istore_n 2) 1 2), some (fl_e0 (.iconst 0) 1), some (fl_ea (.istore_n 3) 1 3)], [fl_el (fl_ea (.iload_n 3) 1 3) [true, true, true, true], some (fl_e0 (.aload_n 0) 1), some (fl_ef (.getfield 31) 3 10 3 2 0 388), none, none, some (fl_ef (.getfield 167) 3 7 3 0 0 236), none, none], [some (fl_ea (.if_icmp .ge 29) 3 53), none, none, some (fl_e0 (.aload_n 0) 1), some (fl_ea (.iload_n 1) 1 1), some (fl_ex1 (.iconst 1) 1 1), some (fl_ea (.iload_n 3) 1 3), some (fl_e0 (.ishl) 1)], [some (fl_ex1 (.iconst (-1)) 1 (-1)), some (fl_e0 (.ixor) 1), some (fl_e0 (.iand) 1), fl_el (fl_ef (.invokevirtual 274) 3 229 2 1 106 956) [true, true, true, true], none, none, some (fl_ea (.ifCond .eq 9) 3 47), none], [none, some (fl_ea (.iload_n 2) 1 2), some (fl_ex1 (.iconst 1) 1 1), some (fl_ea (.iload_n 3) 1 3), some (fl_e0 (.ishl) 1), some (fl_e0 (.ior) 1), some (fl_ea (.istore_n 2) 1 2), fl_el (fl_ew (.iinc 3 1) 3 3 0 0 0 0 1 0 []) [true, true, true, true]], [none, none, some (fl_ea (.goto (-34)) 3 16), none, none, some (fl_e0 (.aload_n 0) 1), some (fl_ea (.iload_n 2) 1 2), some (fl_e0 (.i2l) 1)], [fl_el (fl_ef (.invokevirtual 185) 3 125 2 1 58 739) [false, false, true], none, none, some (fl_ea (.iload_n 2) 1 2), fl_el (fl_ef (.invokestatic 254) 3 190 1 0 16 840) [], none, none, some (fl_e0 (.ireturn) 1)]]]
/-- FaultListsModel.takesBut(I)V -/
def fl_c231 : List (List (List (Option fl_E))) := [[[some (fl_e0 (.aload_n 0) 1), some (fl_e0 (.iconst 0) 1), some (fl_ef (.putfield 214) 3 11 16 0 0 1137), none, none, fl_el (fl_e0 (.iconst 0) 1) [true, true], some (fl_ea (.istore_n 2) 1 2), fl_el (fl_ea (.iload_n 2) 1 2) [true, true, true]], [some (fl_e0 (.aload_n 0) 1), fl_el (fl_ef (.invokevirtual 211) 3 130 1 1 27 1353) [true, true, true], none, none, some (fl_ea (.if_icmp .ge 45) 3 57), none, none, some (fl_ea (.iload_n 1) 1 1)], [some (fl_ea (.iload_n 2) 1 2), some (fl_e0 (.ishr) 1), some (fl_ex1 (.iconst 1) 1 1), some (fl_e0 (.iand) 1), some (fl_ea (.ifCond .ne 31) 3 51), none, none, some (fl_e0 (.aload_n 0) 1)], [some (fl_ef (.getfield 77) 3 11 15 2 0 1136), none, none, some (fl_e0 (.aload_n 0) 1), some (fl_ef (.getfield 214) 3 11 16 0 0 1137), none, none, some (fl_e0 (.aload_n 0) 1)], [some (fl_ef (.getfield 59) 3 11 7 2 0 1128), none, none, some (fl_ex1 (.bipush 78) 2 78), none, some (fl_ea (.iload_n 2) 1 2), some (fl_e0 (.iadd) 1), some (fl_ea (.iaload) 1 2)], [some (fl_e0 (.iastore) 1), fl_el (fl_e0 (.aload_n 0) 1) [true, true, true], some (fl_e0 (.dup) 1), some (fl_ef (.getfield 214) 3 11 16 0 0 1137), none, none, some (fl_ex1 (.iconst 1) 1 1), some (fl_e0 (.iadd) 1)], [some (fl_ef (.putfield 214) 3 11 16 0 0 1137), none, none, fl_el (fl_ew (.iinc 2 1) 3 2 0 0 0 0 1 0 []) [true, true, true], none, none, some (fl_ea (.goto (-47)) 3 7), none], [none, some (fl_e0 (.return_) 1)]]]
/-- FaultListsModel.firstShown(I)I -/
def fl_c232 : List (List (List (Option fl_E))) := [[[some (fl_e0 (.aload_n 0) 1), fl_el (fl_ef (.invokevirtual 217) 3 132 1 1 43 1369) [true, true], none, none, some (fl_e0 (.iconst 0) 1), some (fl_ea (.istore_n 2) 1 2), fl_el (fl_ea (.iload_n 2) 1 2) [true, true, true], some (fl_e0 (.aload_n 0) 1)], [some (fl_ef (.getfield 214) 3 11 16 0 0 1137), none, none, some (fl_ea (.if_icmp .ge 30) 3 41), none, none, some (fl_e0 (.aload_n 0) 1), some (fl_e0 (.aload_n 0) 1)], [some (fl_ef (.getfield 77) 3 11 15 2 0 1136), none, none, some (fl_ea (.iload_n 2) 1 2), some (fl_ea (.iaload) 1 2), some (fl_ea (.iload_n 1) 1 1), fl_el (fl_ef (.invokevirtual 220) 3 137 3 1 75 1373) [true, true, true], none], [none, some (fl_e0 (.aload_n 0) 1), some (fl_ea (.iload_n 2) 1 2), fl_el (fl_ef (.invokevirtual 223) 3 139 2 1 107 1396) [true, true, true], none, none, some (fl_ea (.ifCond .eq 5) 3 35), none], [none, some (fl_ea (.iload_n 2) 1 2), some (fl_e0 (.ireturn) 1), some (fl_ew (.iinc 2 1) 3 2 0 0 0 0 1 0 []), none, none, some (fl_ea (.goto (-32)) 3 6), none], [none, some (fl_ex1 (.iconst (-1)) 1 (-1)), some (fl_e0 (.ireturn) 1)]]]
/-- FaultListsModel.allShown()J -/
def fl_c233 : List (List (List (Option fl_E))) := [[[some (fl_e0 (.aload_n 0) 1), fl_el (fl_ef (.invokevirtual 226) 3 138 1 1 59 1365) [true], none, none, some (fl_e0 (.lconst 0) 1), some (fl_ea (.lstore_n 1) 1 1), some (fl_e0 (.iconst 0) 1), some (fl_ea (.istore_n 3) 1 3)], [fl_el (fl_ea (.iload_n 3) 1 3) [true, true, false, true], some (fl_e0 (.aload_n 0) 1), fl_el (fl_ef (.invokevirtual 129) 3 88 1 1 27 1303) [true, true, false, true], none, none, some (fl_ea (.if_icmp .ge 27) 3 40), none, none], [some (fl_ea (.lload_n 1) 1 1), some (fl_e0 (.aload_n 0) 1), some (fl_ea (.iload_n 3) 1 3), fl_el (fl_ef (.invokevirtual 229) 3 232 2 1 59 1546) [true, false, false, true], none, none, some (fl_ea (.ifCond .lt 9) 3 31), none], [none, some (fl_ew (.lconst 1) 1 0 0 0 0 0 0 1 []), some (fl_ea (.iload_n 3) 1 3), some (fl_e0 (.lshl) 1), some (fl_ea (.goto 4) 3 32), none, none, some (fl_e0 (.lconst 0) 1)], [some (fl_e0 (.lor) 1), some (fl_ea (.lstore_n 1) 1 1), some (fl_ew (.iinc 3 1) 3 3 0 0 0 0 1 0 []), none, none, some (fl_ea (.goto (-29)) 3 8), none, none], [some (fl_ea (.lload_n 1) 1 1), some (fl_e0 (.lreturn) 1)]]]
/-- FaultListsModel.areEnough(IJ)Z -/
def fl_c234 : List (List (List (Option fl_E))) := [[[some (fl_e0 (.aload_n 0) 1), some (fl_ea (.iload_n 1) 1 1), fl_el (fl_ef (.invokevirtual 321) 3 231 2 1 59 1538) [true, false, true], none, none, some (fl_ea (.lload_n 2) 1 2), some (fl_e0 (.aload_n 0) 1), fl_el (fl_ef (.invokevirtual 324) 3 233 1 1 75 1542) []], [none, none, some (fl_ew (.ldc2_w 248) 3 0 0 0 0 1404 0 (-1) []), none, none, some (fl_e0 (.lxor) 1), some (fl_e0 (.land) 1), some (fl_e0 (.lconst 0) 1)], [some (fl_e0 (.lcmp) 1), some (fl_ea (.ifCond .ne 7) 3 24), none, none, some (fl_ex1 (.iconst 1) 1 1), some (fl_ea (.goto 4) 3 25), none, none], [some (fl_e0 (.iconst 0) 1), some (fl_ef (.ireturn) 1 0 0 3 0 0)]]]
/-- FaultListsModel.needless()I -/
def fl_c235 : List (List (List (Option fl_E))) := [[[some (fl_e0 (.aload_n 0) 1), some (fl_e0 (.iconst 0) 1), some (fl_ef (.putfield 3) 3 11 0 0 0 1121), none, none, fl_el (fl_e0 (.aload_n 0) 1) [true], fl_el (fl_ef (.invokevirtual 241) 3 141 1 1 43 1357) [true], none], [none, some (fl_e0 (.aload_n 0) 1), fl_el (fl_ef (.invokevirtual 244) 3 142 1 1 75 1400) [true], none, none, some (fl_ea (.lstore_n 1) 1 1), some (fl_e0 (.iconst 0) 1), some (fl_ea (.istore_n 3) 1 3)], [some (fl_e0 (.iconst 0) 1), some (fl_ea (.istore 4) 2 4), none, fl_el (fl_ea (.iload 4) 2 4) [true, true, false, true, true], none, some (fl_e0 (.aload_n 0) 1), fl_el (fl_ef (.invokevirtual 211) 3 130 1 1 27 1353) [true, true, false, true, true], none], [none, some (fl_ea (.if_icmp .ge 32) 3 57), none, none, some (fl_ea (.iload_n 3) 1 3), some (fl_e0 (.aload_n 0) 1), some (fl_ex1 (.iconst 1) 1 1), some (fl_ea (.iload 4) 2 4)], [none, some (fl_e0 (.ishl) 1), some (fl_ea (.lload_n 1) 1 1), fl_el (fl_ef (.invokevirtual 327) 3 234 3 1 75 1534) [true, true, false, false, true], none, none, some (fl_ea (.ifCond .eq 10) 3 48), none], [none, some (fl_ex1 (.iconst 1) 1 1), some (fl_ea (.iload 4) 2 4), none, some (fl_e0 (.ishl) 1), some (fl_ea (.goto 4) 3 49), none, none], [some (fl_e0 (.iconst 0) 1), some (fl_e0 (.ior) 1), some (fl_ea (.istore_n 3) 1 3), some (fl_ew (.iinc 4 1) 3 4 0 0 0 0 1 0 []), none, none, some (fl_ea (.goto (-35)) 3 19), none], [none, some (fl_e0 (.aload_n 0) 1), some (fl_e0 (.iconst 0) 1), some (fl_ef (.putfield 11) 3 11 1 0 0 1122), none, none, fl_el (fl_e0 (.aload_n 0) 1) [true, false, false, true], some (fl_ea (.iload_n 3) 1 3)]], [[some (fl_e0 (.i2l) 1), fl_el (fl_ef (.invokevirtual 250) 3 143 2 1 59 1405) [false, false, false, true], none, none, some (fl_ea (.iload_n 3) 1 3), some (fl_e0 (.i2l) 1), fl_el (fl_ef (.invokestatic 254) 3 144 1 0 64 1409) [], none], [none, some (fl_e0 (.ireturn) 1)]]]
/-- FaultLists.shorter()I -/
def fl_c236 : List (List (List (Option fl_E))) := [[[some (fl_ex1 (.iconst 1) 1 1), some (fl_e0 (.aload_n 0) 1), some (fl_ef (.getfield 31) 3 10 3 2 0 388), none, none, some (fl_ef (.getfield 167) 3 7 3 0 0 236), none, none], [some (fl_e0 (.ishl) 1), some (fl_ex1 (.iconst 1) 1 1), some (fl_e0 (.isub) 1), some (fl_ea (.istore_n 1) 1 1), some (fl_e0 (.aload_n 0) 1), some (fl_ef (.getfield 31) 3 10 3 2 0 388), none, none], [some (fl_ef (.getfield 167) 3 7 3 0 0 236), none, none, some (fl_ex1 (.iconst 1) 1 1), some (fl_e0 (.isub) 1), some (fl_ea (.istore_n 2) 1 2), fl_el (fl_ea (.iload_n 2) 1 2) [true, true, true], some (fl_ea (.ifCond .lt 31) 3 54)], [none, none, some (fl_e0 (.aload_n 0) 1), some (fl_ea (.iload_n 1) 1 1), some (fl_ex1 (.iconst 1) 1 1), some (fl_ea (.iload_n 2) 1 2), some (fl_e0 (.ishl) 1), some (fl_ex1 (.iconst (-1)) 1 (-1))], [some (fl_e0 (.ixor) 1), some (fl_e0 (.iand) 1), fl_el (fl_ef (.invokevirtual 274) 3 229 2 1 106 956) [true, true, true], none, none, some (fl_ea (.ifCond .eq 11) 3 48), none, none], [some (fl_ea (.iload_n 1) 1 1), some (fl_ex1 (.iconst 1) 1 1), some (fl_ea (.iload_n 2) 1 2), some (fl_e0 (.ishl) 1), some (fl_ex1 (.iconst (-1)) 1 (-1)), some (fl_e0 (.ixor) 1), some (fl_e0 (.iand) 1), some (fl_ea (.istore_n 1) 1 1)], [fl_el (fl_ew (.iinc 2 (-1)) 3 2 0 0 0 0 (-1) 0 []) [true, true, true], none, none, some (fl_ea (.goto (-29)) 3 22), none, none, some (fl_e0 (.aload_n 0) 1), some (fl_ea (.iload_n 1) 1 1)], [some (fl_e0 (.i2l) 1), fl_el (fl_ef (.invokevirtual 185) 3 125 2 1 58 739) [false, true], none, none, some (fl_ea (.iload_n 1) 1 1), fl_el (fl_ef (.invokestatic 254) 3 190 1 0 16 840) [], none, none]], [[some (fl_e0 (.ireturn) 1)]]]
/-- FaultListsModel.shorter()I -/
def fl_c237 : List (List (List (Option fl_E))) := [[[some (fl_e0 (.aload_n 0) 1), some (fl_e0 (.iconst 0) 1), some (fl_ef (.putfield 3) 3 11 0 0 0 1121), none, none, fl_el (fl_e0 (.aload_n 0) 1) [true], fl_el (fl_ef (.invokevirtual 241) 3 141 1 1 43 1357) [true], none], [none, some (fl_e0 (.aload_n 0) 1), fl_el (fl_ef (.invokevirtual 244) 3 142 1 1 75 1400) [true], none, none, some (fl_ea (.lstore_n 1) 1 1), some (fl_e0 (.iconst 0) 1), some (fl_ea (.istore_n 3) 1 3)], [some (fl_e0 (.aload_n 0) 1), fl_el (fl_ef (.invokevirtual 211) 3 130 1 1 27 1353) [true, true, false, true], none, none, some (fl_ex1 (.iconst 1) 1 1), some (fl_e0 (.isub) 1), some (fl_ea (.istore 4) 2 4), none], [fl_el (fl_ea (.iload 4) 2 4) [true, true, false, true, true], none, some (fl_ea (.ifCond .lt 34) 3 60), none, none, some (fl_ea (.iload_n 3) 1 3), some (fl_e0 (.aload_n 0) 1), some (fl_ea (.iload_n 3) 1 3)], [some (fl_ex1 (.iconst 1) 1 1), some (fl_ea (.iload 4) 2 4), none, some (fl_e0 (.ishl) 1), some (fl_e0 (.ior) 1), some (fl_ea (.lload_n 1) 1 1), fl_el (fl_ef (.invokevirtual 327) 3 234 3 1 75 1534) [true, true, false, false, true], none], [none, some (fl_ea (.ifCond .eq 10) 3 51), none, none, some (fl_ex1 (.iconst 1) 1 1), some (fl_ea (.iload 4) 2 4), none, some (fl_e0 (.ishl) 1)], [some (fl_ea (.goto 4) 3 52), none, none, some (fl_e0 (.iconst 0) 1), some (fl_e0 (.ior) 1), some (fl_ea (.istore_n 3) 1 3), some (fl_ew (.iinc 4 (-1)) 3 4 0 0 0 0 (-1) 0 []), none], [none, some (fl_ea (.goto (-33)) 3 24), none, none, some (fl_ex1 (.iconst 1) 1 1), some (fl_e0 (.aload_n 0) 1), fl_el (fl_ef (.invokevirtual 211) 3 130 1 1 27 1353) [true, false, false, true], none]], [[none, some (fl_e0 (.ishl) 1), some (fl_ex1 (.iconst 1) 1 1), some (fl_e0 (.isub) 1), some (fl_ea (.iload_n 3) 1 3), some (fl_ex1 (.iconst (-1)) 1 (-1)), some (fl_e0 (.ixor) 1), some (fl_e0 (.iand) 1)], [some (fl_ea (.istore 4) 2 4), none, some (fl_e0 (.aload_n 0) 1), some (fl_e0 (.iconst 0) 1), some (fl_ef (.putfield 11) 3 11 1 0 0 1122), none, none, fl_el (fl_e0 (.aload_n 0) 1) [true, false, false, false, true]], [some (fl_ea (.iload 4) 2 4), none, some (fl_e0 (.i2l) 1), fl_el (fl_ef (.invokevirtual 250) 3 143 2 1 59 1405) [false, false, false, false, true], none, none, some (fl_ea (.iload 4) 2 4), none], [some (fl_e0 (.i2l) 1), fl_el (fl_ef (.invokestatic 254) 3 144 1 0 64 1409) [], none, none, some (fl_e0 (.ireturn) 1)]]]
/-- FaultLists$Side.otherThan(II)J -/
def fl_c238 : List (List (List (Option fl_E))) := [[[some (fl_ea (.iload_n 2) 1 2), some (fl_ea (.ifCond .ne 14) 3 15), none, none, some (fl_e0 (.aload_n 0) 1), some (fl_ef (.getfield 14) 3 9 0 2 0 195), none, none], [some (fl_ea (.iload_n 1) 1 1), fl_el (fl_ef (.invokevirtual 59) 3 105 2 1 33 689) [], none, none, some (fl_ea (.goto 20) 3 32), none, none, some (fl_ea (.iload_n 2) 1 2)], [some (fl_ex1 (.iconst 1) 1 1), some (fl_ea (.if_icmp .ne 14) 3 31), none, none, some (fl_e0 (.aload_n 0) 1), some (fl_ef (.getfield 20) 3 9 1 2 0 198), none, none], [some (fl_ea (.iload_n 1) 1 1), fl_el (fl_ef (.invokevirtual 59) 3 105 2 1 33 689) [], none, none, some (fl_ea (.goto 4) 3 32), none, none, some (fl_e0 (.lconst 0) 1)], [some (fl_e0 (.lreturn) 1)]]]
/-- FaultLists.blameBySeen()I -/
def fl_c239 : List (List (List (Option fl_E))) := [[[some (fl_e0 (.aload_n 0) 1), some (fl_ef (.getfield 31) 3 10 3 2 0 388), none, none, some (fl_ef (.getfield 72) 3 7 0 2 0 230), none, none, some (fl_ea (.astore_n 1) 1 1)], [some (fl_ea (.aload_n 1) 1 1), fl_el (fl_ef (.invokevirtual 239) 3 110 1 1 20 837) [true, true], none, none, some (fl_ea (.lstore_n 2) 1 2), some (fl_ew (.ldc2_w 311) 3 0 0 0 0 738 0 (-1) []), none, none], [some (fl_ea (.lstore 4) 2 4), none, some (fl_e0 (.aload_n 0) 1), some (fl_ef (.getfield 47) 3 10 9 2 0 394), none, none, some (fl_ea (.aload_n 1) 1 1), fl_el (fl_ef (.invokevirtual 289) 3 27 2 1 32 960) [true, true, true, false, true]], [none, none, some (fl_e0 (.iconst 0) 1), some (fl_ea (.istore 6) 2 6), none, fl_el (fl_ea (.iload 6) 2 6) [true, true, true, false, true, false, true], none, some (fl_e0 (.aload_n 0) 1)], [some (fl_ef (.getfield 31) 3 10 3 2 0 388), none, none, some (fl_ef (.getfield 167) 3 7 3 0 0 236), none, none, some (fl_ea (.if_icmp .ge 145) 3 183), none], [none, some (fl_ea (.iload 6) 2 6), none, some (fl_ea (.aload_n 1) 1 1), some (fl_ef (.getfield 277) 3 4 4 0 0 100), none, none, some (fl_e0 (.imul) 1)], [some (fl_e0 (.aload_n 0) 1), some (fl_ef (.getfield 14) 3 10 0 2 0 385), none, none, fl_el (fl_ef (.invokevirtual 87) 3 31 1 1 21 429) [true, true, true, false, true, false, true], none, none, some (fl_ea (.if_icmp .ge 128) 3 183)], [none, none, some (fl_e0 (.aload_n 0) 1), some (fl_ef (.getfield 47) 3 10 9 2 0 394), none, none, some (fl_ea (.aload_n 1) 1 1), some (fl_e0 (.aload_n 0) 1)]], [[some (fl_ef (.getfield 31) 3 10 3 2 0 388), none, none, some (fl_ef (.getfield 236) 3 7 2 2 0 234), none, none, some (fl_ea (.iload 6) 2 6), none], [fl_el (fl_ef (.invokevirtual 135) 3 24 2 1 33 822) [true, true, true, false, true, false, true], none, none, some (fl_ea (.aload_n 1) 1 1), fl_el (fl_ef (.invokevirtual 239) 3 110 1 1 20 837) [true, true, true, false, true, false, true], none, none, fl_el (fl_ef (.invokevirtual 292) 3 116 4 1 80 961) [true, true, true, false, true, false, true]], [none, none, some (fl_e0 (.iconst 0) 1), some (fl_ea (.istore 7) 2 7), none, fl_el (fl_ea (.iload 7) 2 7) [true, true, true, false, true, false, true, true], none, some (fl_ea (.aload_n 1) 1 1)], [some (fl_ef (.getfield 277) 3 4 4 0 0 100), none, none, some (fl_ea (.if_icmp .ge 86) 3 177), none, none, some (fl_e0 (.aload_n 0) 1), some (fl_ef (.getfield 14) 3 10 0 2 0 385)], [none, none, some (fl_ea (.iload 6) 2 6), none, some (fl_ea (.aload_n 1) 1 1), some (fl_ef (.getfield 277) 3 4 4 0 0 100), none, none], [some (fl_e0 (.imul) 1), some (fl_ea (.iload 7) 2 7), none, some (fl_e0 (.iadd) 1), fl_el (fl_ef (.invokevirtual 326) 3 106 2 1 37 652) [true, true, true, false, true, false, true, true], none, none, fl_el (fl_ef (.invokestatic 333) 3 107 1 0 32 660) [true, true, true, false, true, false, true, true]], [none, none, some (fl_ea (.istore 8) 2 8), none, some (fl_ea (.aload_n 1) 1 1), some (fl_ef (.getfield 341) 3 4 10 2 0 128), none, none], [some (fl_ea (.iload 7) 2 7), none, fl_el (fl_ef (.invokevirtual 135) 3 24 2 1 33 822) [true, true, true, false, true, false, true, true, true], none, none, some (fl_ea (.istore 9) 2 9), none, some (fl_ea (.lload_n 2) 1 2)]], [[some (fl_e0 (.aload_n 0) 1), some (fl_ef (.getfield 47) 3 10 9 2 0 394), none, none, some (fl_ef (.getfield 201) 3 0 1 2 0 221), none, none, some (fl_ea (.iload 9) 2 9)], [none, some (fl_ea (.iload 8) 2 8), none, fl_el (fl_ef (.invokevirtual 344) 3 238 3 1 57 975) [true, true, false, false, true, false, true, true, true, true], none, none, some (fl_ew (.ldc2_w 311) 3 0 0 0 0 738 0 (-1) []), none], [none, some (fl_e0 (.lxor) 1), some (fl_e0 (.land) 1), some (fl_ea (.lstore_n 2) 1 2), some (fl_ea (.lload 4) 2 4), none, some (fl_e0 (.aload_n 0) 1), some (fl_ef (.getfield 47) 3 10 9 2 0 394)], [none, none, some (fl_ef (.getfield 191) 3 0 0 2 0 218), none, none, some (fl_ea (.iload 9) 2 9), none, some (fl_ea (.iload 8) 2 8)], [none, fl_el (fl_ef (.invokevirtual 344) 3 238 3 1 57 975) [true, true, true, false, false, false, true, true], none, none, some (fl_ew (.ldc2_w 311) 3 0 0 0 0 738 0 (-1) []), none, none, some (fl_e0 (.lxor) 1)], [some (fl_e0 (.land) 1), some (fl_ea (.lstore 4) 2 4), none, some (fl_ew (.iinc 7 1) 3 7 0 0 0 0 1 0 []), none, none, some (fl_ea (.goto (-89)) 3 85), none], [none, some (fl_ew (.iinc 6 1) 3 6 0 0 0 0 1 0 []), none, none, some (fl_ea (.goto (-151)) 3 29), none, none, fl_el (fl_e0 (.aload_n 0) 1) [true, false, true, false, true]], [some (fl_ef (.getfield 31) 3 10 3 2 0 388), none, none, some (fl_ea (.lload_n 2) 1 2), some (fl_ef (.putfield 286) 3 7 7 1 0 244), none, none, fl_el (fl_e0 (.aload_n 0) 1) [true, false, true, false, true]]], [[some (fl_ea (.lload_n 2) 1 2), fl_el (fl_ef (.invokevirtual 185) 3 125 2 1 58 739) [true, false, true, false, true], none, none, some (fl_e0 (.aload_n 0) 1), some (fl_ef (.getfield 18) 3 10 1 2 0 386), none, none], [some (fl_ea (.lload 4) 2 4), none, some (fl_ew (.lconst 1) 1 0 0 0 0 0 0 1 []), some (fl_e0 (.land) 1), fl_el (fl_ef (.invokevirtual 91) 3 32 2 1 53 433) [false, false, true], none, none, some (fl_ea (.lload_n 2) 1 2)], [fl_el (fl_ef (.invokestatic 174) 3 126 1 0 32 743) [], none, none, some (fl_e0 (.ireturn) 1)]]]
/-- FaultLists.blames()I -/
def fl_c240 : List (List (List (Option fl_E))) := [[[some (fl_e0 (.aload_n 0) 1), some (fl_e0 (.aload_n 0) 1), some (fl_ef (.getfield 31) 3 10 3 2 0 388), none, none, some (fl_ef (.getfield 72) 3 7 0 2 0 230), none, none], [some (fl_ef (.getfield 277) 3 4 4 0 0 100), none, none, some (fl_e0 (.aload_n 0) 1), some (fl_ef (.getfield 31) 3 10 3 2 0 388), none, none, some (fl_ef (.getfield 167) 3 7 3 0 0 236)], [none, none, some (fl_e0 (.aload_n 0) 1), some (fl_ef (.getfield 31) 3 10 3 2 0 388), none, none, some (fl_ef (.getfield 72) 3 7 0 2 0 230), none], [none, some (fl_ef (.getfield 277) 3 4 4 0 0 100), none, none, some (fl_e0 (.imul) 1), fl_el (fl_ef (.invokevirtual 280) 3 108 3 1 90 648) [true], none, none], [some (fl_ea (.istore_n 1) 1 1), some (fl_ea (.iload_n 1) 1 1), some (fl_ex1 (.iconst (-1)) 1 (-1)), some (fl_ea (.if_icmp .ne 10) 3 45), none, none, some (fl_e0 (.aload_n 0) 1), fl_el (fl_ef (.invokevirtual 283) 3 239 1 1 170 971) [true]], [none, none, some (fl_ea (.goto 6) 3 48), none, none, some (fl_ex1 (.iconst (-1)) 1 (-1)), some (fl_ea (.iload_n 1) 1 1), some (fl_e0 (.isub) 1)], [some (fl_ea (.istore_n 2) 1 2), some (fl_e0 (.aload_n 0) 1), some (fl_ef (.getfield 14) 3 10 0 2 0 385), none, none, fl_el (fl_ef (.invokevirtual 103) 3 40 1 1 21 625) [false, false, true], none, none], [some (fl_ea (.iload_n 2) 1 2), some (fl_e0 (.ireturn) 1)]]]
/-- FaultListsModel.isAsSeen(II)Z -/
def fl_c241 : List (List (List (Option fl_E))) := [[[some (fl_e0 (.aload_n 0) 1), fl_el (fl_ef (.invokevirtual 217) 3 132 1 1 43 1369) [true, true, true], none, none, some (fl_e0 (.iconst 0) 1), some (fl_ea (.istore_n 3) 1 3), fl_el (fl_e0 (.aload_n 0) 1) [true, true, true, true], some (fl_ef (.getfield 59) 3 11 7 2 0 1128)], [none, none, some (fl_ex1 (.iconst 3) 1 3), some (fl_ea (.iaload) 1 2), some (fl_ea (.iload_n 3) 1 3), some (fl_e0 (.imul) 1), some (fl_ea (.iload_n 2) 1 2), some (fl_ea (.if_icmp .ge 101) 3 116)], [none, none, some (fl_e0 (.aload_n 0) 1), some (fl_e0 (.aload_n 0) 1), some (fl_ef (.getfield 77) 3 11 15 2 0 1136), none, none, some (fl_ea (.iload_n 3) 1 3)], [some (fl_ea (.iaload) 1 2), some (fl_ea (.iload_n 1) 1 1), fl_el (fl_ef (.invokevirtual 220) 3 137 3 1 75 1373) [true, true, true, true], none, none, some (fl_e0 (.iconst 0) 1), some (fl_ea (.istore 4) 2 4), none], [fl_el (fl_ea (.iload 4) 2 4) [true, true, true, true, true], none, some (fl_e0 (.aload_n 0) 1), some (fl_ef (.getfield 59) 3 11 7 2 0 1128), none, none, some (fl_ex1 (.iconst 3) 1 3), some (fl_ea (.iaload) 1 2)], [some (fl_ea (.if_icmp .ge 70) 3 110), none, none, some (fl_ef (.ldc 239) 2 1048582 0 1 0 1348), none, some (fl_e0 (.aload_n 0) 1), some (fl_ef (.getfield 17) 3 11 3 2 0 1124), none], [none, some (fl_e0 (.aload_n 0) 1), some (fl_ef (.getfield 59) 3 11 7 2 0 1128), none, none, some (fl_ex1 (.iconst 3) 1 3), some (fl_ea (.iaload) 1 2), some (fl_ea (.iload_n 3) 1 3)], [some (fl_e0 (.imul) 1), some (fl_ea (.iload 4) 2 4), none, some (fl_e0 (.iadd) 1), some (fl_ea (.iaload) 1 2), fl_el (fl_ef (.invokestatic 41) 3 77 2 0 48 1247) [true, true, true, true, true], none, none]], [[some (fl_ea (.istore 5) 2 5), none, some (fl_e0 (.aload_n 0) 1), some (fl_ef (.getfield 71) 3 11 13 2 0 1134), none, none, some (fl_e0 (.aload_n 0) 1), some (fl_ef (.getfield 59) 3 11 7 2 0 1128)], [none, none, some (fl_ex1 (.bipush 72) 2 72), none, some (fl_ea (.iload 4) 2 4), none, some (fl_e0 (.iadd) 1), some (fl_ea (.iaload) 1 2)], [some (fl_ea (.iaload) 1 2), some (fl_ea (.istore 6) 2 6), none, some (fl_ea (.iload 5) 2 5), none, some (fl_ex1 (.iconst 2) 1 2), some (fl_ea (.if_icmp .ge 18) 3 104), none], [none, some (fl_ea (.iload 6) 2 6), none, some (fl_ex1 (.iconst 2) 1 2), some (fl_ea (.if_icmp .ge 12) 3 104), none, none, some (fl_ea (.iload 5) 2 5)], [none, some (fl_ea (.iload 6) 2 6), none, some (fl_ea (.if_icmp .eq 5) 3 104), none, none, some (fl_e0 (.iconst 0) 1), some (fl_ef (.ireturn) 1 0 0 3 0 0)], [fl_el (fl_ew (.iinc 4 1) 3 4 0 0 0 0 1 0 []) [true, true, true, true, true], none, none, some (fl_ea (.goto (-75)) 3 32), none, none, some (fl_ew (.iinc 3 1) 3 3 0 0 0 0 1 0 []), none], [none, some (fl_ea (.goto (-107)) 3 6), none, none, some (fl_ex1 (.iconst 1) 1 1), some (fl_ef (.ireturn) 1 0 0 3 0 0)]]]
/-- FaultListsModel.blames()I -/
def fl_c242 : List (List (List (Option fl_E))) := [[[some (fl_e0 (.aload_n 0) 1), some (fl_e0 (.iconst 0) 1), some (fl_ef (.putfield 3) 3 11 0 0 0 1121), none, none, fl_el (fl_e0 (.aload_n 0) 1) [true], fl_el (fl_ef (.invokevirtual 174) 3 72 1 1 27 1230) [true], none], [none, some (fl_e0 (.aload_n 0) 1), fl_el (fl_ef (.invokevirtual 211) 3 130 1 1 27 1353) [true], none, none, some (fl_e0 (.aload_n 0) 1), some (fl_ef (.getfield 59) 3 11 7 2 0 1128), none], [none, some (fl_ex1 (.iconst 3) 1 3), some (fl_ea (.iaload) 1 2), some (fl_e0 (.imul) 1), some (fl_ea (.istore_n 1) 1 1), some (fl_e0 (.iconst 0) 1), some (fl_ea (.istore_n 2) 1 2), fl_el (fl_ea (.iload_n 2) 1 2) [true, true, true]], [some (fl_e0 (.aload_n 0) 1), some (fl_ef (.getfield 25) 3 11 6 0 0 1127), none, none, some (fl_ea (.if_icmp .ge 32) 3 60), none, none, some (fl_ea (.iload_n 2) 1 2)], [some (fl_ea (.iload_n 1) 1 1), some (fl_ea (.if_icmp .ge 17) 3 50), none, none, some (fl_ef (.ldc 239) 2 1048582 0 1 0 1348), none, some (fl_e0 (.aload_n 0) 1), some (fl_ef (.getfield 17) 3 11 3 2 0 1124)], [none, none, some (fl_ea (.iload_n 2) 1 2), some (fl_ea (.iaload) 1 2), fl_el (fl_ef (.invokestatic 41) 3 77 2 0 48 1247) [true, true, true], none, none, some (fl_ea (.ifCond .ge 7) 3 54)], [none, none, fl_el (fl_ex1 (.iconst (-1)) 1 (-1)) [false, false, true], some (fl_ea (.iload_n 2) 1 2), some (fl_e0 (.isub) 1), some (fl_e0 (.ireturn) 1), some (fl_ew (.iinc 2 1) 3 2 0 0 0 0 1 0 []), none], [none, some (fl_ea (.goto (-34)) 3 23), none, none, some (fl_e0 (.aload_n 0) 1), some (fl_ef (.getfield 25) 3 11 6 0 0 1127), none, none]], [[some (fl_e0 (.aload_n 0) 1), some (fl_ef (.getfield 59) 3 11 7 2 0 1128), none, none, some (fl_ex1 (.iconst 3) 1 3), some (fl_ea (.iaload) 1 2), some (fl_e0 (.irem) 1), some (fl_ea (.ifCond .eq 10) 3 81)], [none, none, some (fl_ex1 (.iconst (-1)) 1 (-1)), some (fl_e0 (.aload_n 0) 1), some (fl_ef (.getfield 25) 3 11 6 0 0 1127), none, none, some (fl_e0 (.isub) 1)], [some (fl_e0 (.ireturn) 1), some (fl_e0 (.aload_n 0) 1), fl_el (fl_ef (.invokevirtual 232) 3 131 1 1 43 1361) [true], none, none, some (fl_e0 (.lconst 0) 1), some (fl_ea (.lstore_n 2) 1 2), some (fl_e0 (.iconst 0) 1)], [some (fl_ea (.istore 4) 2 4), none, fl_el (fl_ea (.iload 4) 2 4) [true, false, true, false, true], none, some (fl_e0 (.aload_n 0) 1), fl_el (fl_ef (.invokevirtual 129) 3 88 1 1 27 1303) [true, false, true, false, true], none, none], [some (fl_ea (.if_icmp .ge 33) 3 129), none, none, some (fl_ea (.lload_n 2) 1 2), some (fl_e0 (.aload_n 0) 1), some (fl_ea (.iload 4) 2 4), none, some (fl_e0 (.aload_n 0) 1)], [some (fl_ef (.getfield 25) 3 11 6 0 0 1127), none, none, fl_el (fl_ef (.invokevirtual 331) 3 241 3 1 123 1558) [true, false, false, false, true], none, none, some (fl_ea (.ifCond .eq 10) 3 120), none], [none, some (fl_ew (.lconst 1) 1 0 0 0 0 0 0 1 []), some (fl_ea (.iload 4) 2 4), none, some (fl_e0 (.lshl) 1), some (fl_ea (.goto 4) 3 121), none, none], [some (fl_e0 (.lconst 0) 1), some (fl_e0 (.lor) 1), some (fl_ea (.lstore_n 2) 1 2), some (fl_ew (.iinc 4 1) 3 4 0 0 0 0 1 0 []), none, none, some (fl_ea (.goto (-36)) 3 90), none]], [[none, some (fl_e0 (.aload_n 0) 1), some (fl_ef (.getfield 62) 3 11 8 2 0 1129), none, none, some (fl_e0 (.iconst 0) 1), some (fl_ea (.lload_n 2) 1 2), some (fl_e0 (.lastore) 1)], [fl_el (fl_e0 (.aload_n 0) 1) [true, false, true], some (fl_e0 (.iconst 0) 1), some (fl_ef (.putfield 11) 3 11 1 0 0 1122), none, none, fl_el (fl_e0 (.aload_n 0) 1) [true, false, true], some (fl_ea (.lload_n 2) 1 2), fl_el (fl_ef (.invokevirtual 250) 3 143 2 1 59 1405) [true, false, true]], [none, none, some (fl_e0 (.aload_n 0) 1), some (fl_e0 (.aload_n 0) 1), some (fl_ex1 (.iconst (-1)) 1 (-1)), some (fl_e0 (.aload_n 0) 1), some (fl_ef (.getfield 25) 3 11 6 0 0 1127), none], [none, fl_el (fl_ef (.invokevirtual 331) 3 241 3 1 123 1558) [false, false, true], none, none, fl_el (fl_ef (.invokestatic 49) 3 79 1 0 16 1271) [false, false, true], none, none, some (fl_e0 (.i2l) 1)], [fl_el (fl_ef (.invokevirtual 250) 3 143 2 1 59 1405) [false, false, true], none, none, some (fl_ea (.lload_n 2) 1 2), fl_el (fl_ef (.invokestatic 254) 3 144 1 0 64 1409) [], none, none, some (fl_e0 (.ireturn) 1)]]]
/-- FaultLists$Side.asAtOutputs(LFaultLists$Net;I)J -/
def fl_c243 : List (List (List (Option fl_E))) := [[[some (fl_ew (.ldc2_w 53) 3 0 0 0 0 383 0 (-1) []), none, none, some (fl_ea (.lstore_n 3) 1 3), some (fl_e0 (.iconst 0) 1), some (fl_ea (.istore 5) 2 5), none, fl_el (fl_ea (.iload 5) 2 5) [true, true, true, true, false, true]], [none, some (fl_ea (.aload_n 1) 1 1), some (fl_ef (.getfield 99) 3 4 4 0 0 99), none, none, some (fl_ea (.if_icmp .ge 91) 3 104), none, none], [some (fl_e0 (.aload_n 0) 1), some (fl_ef (.getfield 14) 3 9 0 2 0 195), none, none, some (fl_ea (.aload_n 1) 1 1), some (fl_ef (.getfield 102) 3 4 10 2 0 127), none, none], [some (fl_ea (.iload 5) 2 5), none, fl_el (fl_ef (.invokevirtual 45) 3 24 2 1 33 375) [true, true, true, true, false, true], none, none, fl_el (fl_ef (.invokevirtual 59) 3 105 2 1 33 689) [true, true, true, true, false, true], none, none], [some (fl_ea (.lstore 6) 2 6), none, some (fl_e0 (.aload_n 0) 1), some (fl_ef (.getfield 20) 3 9 1 2 0 198), none, none, some (fl_ea (.aload_n 1) 1 1), some (fl_ef (.getfield 102) 3 4 10 2 0 127)], [none, none, some (fl_ea (.iload 5) 2 5), none, fl_el (fl_ef (.invokevirtual 45) 3 24 2 1 33 375) [true, true, true, true, false, true, true], none, none, fl_el (fl_ef (.invokevirtual 59) 3 105 2 1 33 689) [true, true, true, true, false, true, true]], [none, none, some (fl_ea (.lstore 8) 2 8), none, some (fl_ea (.lload_n 3) 1 3), some (fl_ea (.lload 6) 2 6), none, some (fl_ea (.iload_n 2) 1 2)], [fl_el (fl_ef (.invokestatic 95) 3 120 2 10 48 790) [true, true, true, false, false, true, true, false, true], none, none, some (fl_ea (.ifCond .eq 8) 3 67), none, none, some (fl_ea (.lload 6) 2 6), none]], [[some (fl_ea (.goto 9) 3 73), none, none, some (fl_ea (.lload 6) 2 6), none, some (fl_ew (.ldc2_w 53) 3 0 0 0 0 383 0 (-1) []), none, none], [some (fl_e0 (.lxor) 1), some (fl_e0 (.land) 1), some (fl_ea (.lstore_n 3) 1 3), some (fl_ea (.lload_n 3) 1 3), some (fl_ea (.lload 8) 2 8), none, some (fl_ea (.iload_n 2) 1 2), fl_el (fl_ef (.invokestatic 95) 3 120 2 10 48 790) [true, true, true, false, false, true, false, false, true]], [none, none, some (fl_ea (.ifCond .eq 8) 3 90), none, none, some (fl_ea (.lload 8) 2 8), none, some (fl_ea (.goto 9) 3 96)], [none, none, some (fl_ea (.lload 8) 2 8), none, some (fl_ew (.ldc2_w 53) 3 0 0 0 0 383 0 (-1) []), none, none, some (fl_e0 (.lxor) 1)], [some (fl_e0 (.land) 1), some (fl_ea (.lstore_n 3) 1 3), some (fl_ew (.iinc 5 1) 3 5 0 0 0 0 1 0 []), none, none, some (fl_ea (.goto (-94)) 3 7), none, none], [some (fl_ea (.lload_n 3) 1 3), some (fl_e0 (.lreturn) 1)]]]
/-- FaultLists.largestAlike(LFaultLists$Side;)I -/
def fl_c244 : List (List (List (Option fl_E))) := [[[some (fl_e0 (.iconst 0) 1), some (fl_ea (.istore_n 2) 1 2), some (fl_e0 (.aload_n 0) 1), some (fl_ef (.getfield 31) 3 10 3 2 0 388), none, none, some (fl_ef (.getfield 286) 3 7 7 1 0 244), none], [none, some (fl_ea (.lstore_n 3) 1 3), some (fl_e0 (.iconst 0) 1), some (fl_ea (.istore 5) 2 5), none, fl_el (fl_ea (.iload 5) 2 5) [true, true, true, true, false, true], none, some (fl_ex1 (.bipush 64) 2 64)], [none, some (fl_ea (.if_icmp .ge 54) 3 71), none, none, some (fl_ea (.lload_n 3) 1 3), some (fl_ea (.iload 5) 2 5), none, fl_el (fl_ef (.invokestatic 216) 3 120 2 0 48 820) [true, true, true, true, false, true]], [none, none, some (fl_ea (.ifCond .eq 39) 3 65), none, none, some (fl_ea (.lload_n 3) 1 3), some (fl_ea (.aload_n 1) 1 1), some (fl_e0 (.aload_n 0) 1)], [some (fl_ef (.getfield 31) 3 10 3 2 0 388), none, none, some (fl_ef (.getfield 72) 3 7 0 2 0 230), none, none, some (fl_ea (.iload 5) 2 5), none], [fl_el (fl_ef (.invokevirtual 348) 3 243 3 1 169 989) [true, true, true, true, false, true], none, none, some (fl_e0 (.land) 1), some (fl_ea (.lstore 6) 2 6), none, some (fl_ea (.iload_n 2) 1 2), some (fl_ea (.lload 6) 2 6)], [none, fl_el (fl_ef (.invokestatic 174) 3 126 1 0 32 743) [true, true, false, true, false, true, true], none, none, fl_el (fl_ef (.invokestatic 352) 3 50 2 0 32 993) [true, true, false, true, false, true, true], none, none, some (fl_ea (.istore_n 2) 1 2)], [some (fl_ea (.lload_n 3) 1 3), some (fl_ea (.lload 6) 2 6), none, some (fl_ew (.ldc2_w 311) 3 0 0 0 0 738 0 (-1) []), none, none, some (fl_e0 (.lxor) 1), some (fl_e0 (.land) 1)]], [[some (fl_ea (.lstore_n 3) 1 3), fl_el (fl_ew (.iinc 5 1) 3 5 0 0 0 0 1 0 []) [true, true, true, true, false, true], none, none, some (fl_ea (.goto (-55)) 3 13), none, none, some (fl_ea (.iload_n 2) 1 2)], [some (fl_e0 (.ireturn) 1)]]]
/-- FaultLists.parts()I -/
def fl_c245 : List (List (List (Option fl_E))) := [[[some (fl_e0 (.aload_n 0) 1), some (fl_ef (.getfield 31) 3 10 3 2 0 388), none, none, some (fl_ef (.getfield 72) 3 7 0 2 0 230), none, none, some (fl_ea (.astore_n 1) 1 1)], [some (fl_e0 (.aload_n 0) 1), some (fl_ef (.getfield 31) 3 10 3 2 0 388), none, none, some (fl_ef (.getfield 286) 3 7 7 1 0 244), none, none, fl_el (fl_ef (.invokestatic 174) 3 126 1 0 32 743) [true, true]], [none, none, some (fl_ex1 (.iconst 2) 1 2), some (fl_ea (.if_icmp .ge 6) 3 25), none, none, some (fl_ex1 (.bipush (-2)) 2 (-2)), none], [some (fl_e0 (.ireturn) 1), some (fl_e0 (.aload_n 0) 1), some (fl_ef (.getfield 47) 3 10 9 2 0 394), none, none, some (fl_ea (.aload_n 1) 1 1), fl_el (fl_ef (.invokevirtual 289) 3 27 2 1 32 960) [true, true], none], [none, some (fl_e0 (.iconst 0) 1), some (fl_ea (.istore_n 2) 1 2), fl_el (fl_ea (.iload_n 2) 1 2) [true, true, true], some (fl_e0 (.aload_n 0) 1), some (fl_ef (.getfield 31) 3 10 3 2 0 388), none, none], [some (fl_ef (.getfield 167) 3 7 3 0 0 236), none, none, some (fl_ea (.if_icmp .ge 32) 3 75), none, none, some (fl_e0 (.aload_n 0) 1), some (fl_ef (.getfield 47) 3 10 9 2 0 394)], [none, none, some (fl_ea (.aload_n 1) 1 1), some (fl_e0 (.aload_n 0) 1), some (fl_ef (.getfield 31) 3 10 3 2 0 388), none, none, some (fl_ef (.getfield 236) 3 7 2 2 0 234)], [none, none, some (fl_ea (.iload_n 2) 1 2), fl_el (fl_ef (.invokevirtual 135) 3 24 2 1 33 822) [true, true, true], none, none, some (fl_ea (.aload_n 1) 1 1), fl_el (fl_ef (.invokevirtual 239) 3 110 1 1 20 837) [true, true, true]]], [[none, none, fl_el (fl_ef (.invokevirtual 292) 3 116 4 1 80 961) [true, true, true], none, none, some (fl_ew (.iinc 2 1) 3 2 0 0 0 0 1 0 []), none, none], [some (fl_ea (.goto (-37)) 3 35), none, none, some (fl_e0 (.iconst 0) 1), some (fl_ea (.istore_n 2) 1 2), some (fl_ex1 (.bipush 65) 2 65), none, some (fl_ea (.istore_n 3) 1 3)], [some (fl_e0 (.iconst 0) 1), some (fl_ea (.istore 4) 2 4), none, fl_el (fl_ea (.iload 4) 2 4) [true, true, true, true, true], none, some (fl_ex1 (.iconst 1) 1 1), some (fl_ea (.aload_n 1) 1 1), some (fl_ef (.getfield 293) 3 4 0 0 0 78)], [none, none, some (fl_e0 (.ishl) 1), some (fl_ea (.if_icmp .ge 63) 3 154), none, none, some (fl_e0 (.aload_n 0) 1), some (fl_ef (.getfield 54) 3 10 10 2 0 395)], [none, none, some (fl_e0 (.aload_n 0) 1), some (fl_ef (.getfield 47) 3 10 9 2 0 394), none, none, some (fl_ef (.getfield 201) 3 0 1 2 0 221), none], [none, fl_el (fl_ef (.invokevirtual 296) 3 147 2 1 41 983) [true, true, true, true, true], none, none, some (fl_e0 (.aload_n 0) 1), some (fl_ef (.getfield 54) 3 10 10 2 0 395), none, none], [some (fl_ea (.aload_n 1) 1 1), some (fl_ea (.aload_n 1) 1 1), some (fl_ea (.iload 4) 2 4), none, fl_el (fl_ef (.invokevirtual 299) 3 211 2 1 68 984) [true, true, true, true, true], none, none, some (fl_ea (.aload_n 1) 1 1)], [fl_el (fl_ef (.invokevirtual 239) 3 110 1 1 20 837) [true, true, true, true, true], none, none, fl_el (fl_ef (.invokevirtual 243) 3 115 4 1 137 838) [true, true, true, true, true], none, none, some (fl_e0 (.aload_n 0) 1), some (fl_e0 (.aload_n 0) 1)]], [[some (fl_ef (.getfield 54) 3 10 10 2 0 395), none, none, fl_el (fl_ef (.invokevirtual 302) 3 244 2 1 138 985) [true, true, true, true, true], none, none, some (fl_ea (.istore 5) 2 5), none], [some (fl_ea (.iload 5) 2 5), none, some (fl_ea (.iload_n 3) 1 3), some (fl_ea (.if_icmp .ge 9) 3 148), none, none, some (fl_ea (.iload 5) 2 5), none], [some (fl_ea (.istore_n 3) 1 3), some (fl_ea (.iload 4) 2 4), none, some (fl_ea (.istore_n 2) 1 2), fl_el (fl_ew (.iinc 4 1) 3 4 0 0 0 0 1 0 []) [true, true, true, true, true], none, none, some (fl_ea (.goto (-68)) 3 83)], [none, none, some (fl_e0 (.aload_n 0) 1), some (fl_ea (.iload_n 3) 1 3), some (fl_e0 (.i2l) 1), fl_el (fl_ef (.invokevirtual 185) 3 125 2 1 58 739) [false, false, true], none, none], [some (fl_ea (.iload_n 2) 1 2), some (fl_e0 (.ireturn) 1)]]]
/-- FaultListsModel.has(JI)Z -/
def fl_c246 : List (List (List (Option fl_E))) := [[[some (fl_e0 (.lload_n 0) 1), some (fl_ea (.iload_n 2) 1 2), some (fl_e0 (.lshr) 1), some (fl_ew (.lconst 1) 1 0 0 0 0 0 0 1 []), some (fl_e0 (.land) 1), some (fl_ew (.lconst 1) 1 0 0 0 0 0 0 1 []), some (fl_e0 (.lcmp) 1), some (fl_ea (.ifCond .ne 7) 3 14)], [none, none, some (fl_ex1 (.iconst 1) 1 1), some (fl_ea (.goto 4) 3 15), none, none, some (fl_e0 (.iconst 0) 1), some (fl_ef (.ireturn) 1 0 0 3 0 0)]]]
/-- FaultListsModel.alikeBy(I)I -/
def fl_c247 : List (List (List (Option fl_E))) := [[[some (fl_e0 (.iconst 0) 1), some (fl_ea (.istore_n 2) 1 2), some (fl_e0 (.iconst 0) 1), some (fl_ea (.istore_n 3) 1 3), fl_el (fl_ea (.iload_n 3) 1 3) [true, true, true, true], some (fl_e0 (.aload_n 0) 1), fl_el (fl_ef (.invokevirtual 129) 3 88 1 1 27 1303) [true, true, true, true], none], [none, some (fl_ea (.if_icmp .ge 186) 3 195), none, none, some (fl_e0 (.aload_n 0) 1), some (fl_ef (.getfield 119) 3 11 31 2 0 1152), none, none], [some (fl_ea (.iload_n 3) 1 3), some (fl_ex1 (.iconst (-1)) 1 (-1)), some (fl_e0 (.iastore) 1), fl_el (fl_e0 (.aload_n 0) 1) [true, true, true, true], some (fl_ef (.getfield 62) 3 11 8 2 0 1129), none, none, some (fl_e0 (.iconst 0) 1)], [some (fl_e0 (.laload) 1), some (fl_ea (.iload_n 3) 1 3), fl_el (fl_ef (.invokestatic 335) 3 246 2 0 48 1570) [true, true, true, true], none, none, some (fl_ea (.ifCond .ne 6) 3 35), none, none], [some (fl_ea (.goto 157) 3 189), none, none, some (fl_e0 (.aload_n 0) 1), fl_el (fl_ef (.invokevirtual 217) 3 132 1 1 43 1369) [true, true, true, true], none, none, some (fl_e0 (.iconst 0) 1)], [some (fl_ea (.istore 4) 2 4), none, fl_el (fl_ea (.iload 4) 2 4) [true, true, true, true, true], none, some (fl_e0 (.aload_n 0) 1), fl_el (fl_ef (.invokevirtual 211) 3 130 1 1 27 1353) [true, true, true, true, true], none, none], [some (fl_ea (.if_icmp .ge 24) 3 72), none, none, some (fl_e0 (.aload_n 0) 1), some (fl_e0 (.aload_n 0) 1), some (fl_ef (.getfield 59) 3 11 7 2 0 1128), none, none], [some (fl_ex1 (.bipush 78) 2 78), none, some (fl_ea (.iload 4) 2 4), none, some (fl_e0 (.iadd) 1), some (fl_ea (.iaload) 1 2), some (fl_ea (.iload_n 3) 1 3), fl_el (fl_ef (.invokevirtual 220) 3 137 3 1 75 1373) [true, true, true, true, true]]], [[none, none, some (fl_ew (.iinc 4 1) 3 4 0 0 0 0 1 0 []), none, none, some (fl_ea (.goto (-27)) 3 42), none, none], [some (fl_e0 (.aload_n 0) 1), some (fl_ea (.iload_n 1) 1 1), some (fl_ea (.iload_n 3) 1 3), fl_el (fl_ef (.invokevirtual 220) 3 137 3 1 75 1373) [true, true, true, true], none, none, some (fl_e0 (.aload_n 0) 1), some (fl_ef (.getfield 119) 3 11 31 2 0 1152)], [none, none, some (fl_ea (.iload_n 3) 1 3), some (fl_e0 (.iconst 0) 1), some (fl_e0 (.iastore) 1), fl_el (fl_e0 (.iconst 0) 1) [true, true, true, true], some (fl_ea (.istore 4) 2 4), none], [fl_el (fl_ea (.iload 4) 2 4) [true, true, true, true, true], none, some (fl_e0 (.aload_n 0) 1), some (fl_ef (.getfield 59) 3 11 7 2 0 1128), none, none, some (fl_ex1 (.iconst 3) 1 3), some (fl_ea (.iaload) 1 2)], [some (fl_ea (.if_icmp .ge 39) 3 135), none, none, some (fl_e0 (.aload_n 0) 1), some (fl_ef (.getfield 119) 3 11 31 2 0 1152), none, none, some (fl_ea (.iload_n 3) 1 3)], [some (fl_ex1 (.iconst 3) 1 3), some (fl_e0 (.aload_n 0) 1), some (fl_ef (.getfield 119) 3 11 31 2 0 1152), none, none, some (fl_ea (.iload_n 3) 1 3), some (fl_ea (.iaload) 1 2), some (fl_e0 (.imul) 1)], [some (fl_e0 (.aload_n 0) 1), some (fl_ef (.getfield 71) 3 11 13 2 0 1134), none, none, some (fl_e0 (.aload_n 0) 1), some (fl_ef (.getfield 59) 3 11 7 2 0 1128), none, none], [some (fl_ex1 (.bipush 72) 2 72), none, some (fl_ea (.iload 4) 2 4), none, some (fl_e0 (.iadd) 1), some (fl_ea (.iaload) 1 2), some (fl_ea (.iaload) 1 2), some (fl_e0 (.iadd) 1)]], [[some (fl_e0 (.iastore) 1), fl_el (fl_ew (.iinc 4 1) 3 4 0 0 0 0 1 0 []) [true, true, true, true, true], none, none, some (fl_ea (.goto (-44)) 3 88), none, none, some (fl_e0 (.iconst 0) 1)], [some (fl_ea (.istore 4) 2 4), none, some (fl_e0 (.iconst 0) 1), some (fl_ea (.istore 5) 2 5), none, fl_el (fl_ea (.iload 5) 2 5) [true, true, true, true, true, true], none, some (fl_ea (.iload_n 3) 1 3)], [some (fl_ea (.if_icmp .gt 38) 3 182), none, none, some (fl_ea (.iload 4) 2 4), none, some (fl_e0 (.aload_n 0) 1), some (fl_ef (.getfield 119) 3 11 31 2 0 1152), none], [none, some (fl_ea (.iload 5) 2 5), none, some (fl_ea (.iaload) 1 2), some (fl_e0 (.aload_n 0) 1), some (fl_ef (.getfield 119) 3 11 31 2 0 1152), none, none], [some (fl_ea (.iload_n 3) 1 3), some (fl_ea (.iaload) 1 2), some (fl_ea (.if_icmp .ne 7) 3 169), none, none, some (fl_ex1 (.iconst 1) 1 1), some (fl_ea (.goto 4) 3 170), none], [none, some (fl_e0 (.iconst 0) 1), fl_el (fl_ef (.invokestatic 49) 3 79 1 0 16 1271) [true, true, true, true, false, true], none, none, some (fl_e0 (.iadd) 1), some (fl_ea (.istore 4) 2 4), none], [some (fl_ew (.iinc 5 1) 3 5 0 0 0 0 1 0 []), none, none, some (fl_ea (.goto (-38)) 3 141), none, none, some (fl_ea (.iload_n 2) 1 2), some (fl_ea (.iload 4) 2 4)], [none, fl_el (fl_ef (.invokestatic 284) 3 50 2 0 32 1489) [true, true, false, true], none, none, some (fl_ea (.istore_n 2) 1 2), fl_el (fl_ew (.iinc 3 1) 3 3 0 0 0 0 1 0 []) [true, true, true, true], none, none]], [[some (fl_ea (.goto (-188)) 3 4), none, none, some (fl_ea (.iload_n 2) 1 2), some (fl_e0 (.ireturn) 1)]]]
/-- FaultListsModel.parts()I -/
def fl_c248 : List (List (List (Option fl_E))) := [[[some (fl_e0 (.aload_n 0) 1), some (fl_e0 (.iconst 0) 1), some (fl_ef (.putfield 3) 3 11 0 0 0 1121), none, none, fl_el (fl_e0 (.aload_n 0) 1) [true], some (fl_ef (.getfield 62) 3 11 8 2 0 1129), none], [none, some (fl_e0 (.iconst 0) 1), some (fl_e0 (.laload) 1), fl_el (fl_ef (.invokestatic 254) 3 144 1 0 64 1409) [true], none, none, some (fl_ex1 (.iconst 2) 1 2), some (fl_ea (.if_icmp .ge 6) 3 21)], [none, none, some (fl_ex1 (.bipush (-2)) 2 (-2)), none, some (fl_e0 (.ireturn) 1), some (fl_ex1 (.iconst (-1)) 1 (-1)), some (fl_ea (.istore_n 1) 1 1), some (fl_ex1 (.bipush 65) 2 65)], [none, some (fl_ea (.istore_n 2) 1 2), some (fl_e0 (.iconst 0) 1), some (fl_ea (.istore_n 3) 1 3), fl_el (fl_ea (.iload_n 3) 1 3) [true, true, true, true], some (fl_ex1 (.iconst 1) 1 1), some (fl_e0 (.aload_n 0) 1), fl_el (fl_ef (.invokevirtual 199) 3 129 1 1 27 1349) [true, true, true, true]], [none, none, some (fl_e0 (.ishl) 1), some (fl_ea (.if_icmp .ge 39) 3 74), none, none, some (fl_e0 (.aload_n 0) 1), some (fl_e0 (.aload_n 0) 1)], [some (fl_ea (.iload_n 3) 1 3), fl_el (fl_ef (.invokevirtual 309) 3 222 2 1 75 1514) [true, true, true, true], none, none, fl_el (fl_ef (.invokevirtual 339) 3 247 2 1 107 1566) [true, true, true, true], none, none, some (fl_ea (.istore 4) 2 4)], [none, some (fl_ea (.iload 4) 2 4), none, some (fl_ea (.iload_n 2) 1 2), some (fl_ea (.if_icmp .ge 7) 3 59), none, none, some (fl_ea (.iload_n 3) 1 3)], [some (fl_ea (.goto 4) 3 60), none, none, some (fl_ea (.iload_n 1) 1 1), some (fl_ea (.istore_n 1) 1 1), some (fl_ea (.iload_n 2) 1 2), some (fl_ea (.iload 4) 2 4), none]], [[fl_el (fl_ef (.invokestatic 279) 3 51 2 0 32 1488) [true, true, false, true], none, none, some (fl_ea (.istore_n 2) 1 2), some (fl_ew (.iinc 3 1) 3 3 0 0 0 0 1 0 []), none, none, some (fl_ea (.goto (-43)) 3 28)], [none, none, some (fl_e0 (.aload_n 0) 1), some (fl_e0 (.iconst 0) 1), some (fl_ef (.putfield 11) 3 11 1 0 0 1122), none, none, fl_el (fl_e0 (.aload_n 0) 1) [true, true, true]], [some (fl_ea (.iload_n 2) 1 2), some (fl_e0 (.i2l) 1), fl_el (fl_ef (.invokevirtual 250) 3 143 2 1 59 1405) [false, true], none, none, some (fl_ea (.iload_n 1) 1 1), some (fl_e0 (.ireturn) 1)]]]
/-- FaultLists.drawn(II)I -/
def fl_c249 : List (List (List (Option fl_E))) := [[[some (fl_ea (.iload_n 2) 1 2), some (fl_ex1 (.iconst 1) 1 1), some (fl_ea (.if_icmp .lt 9) 3 11), none, none, some (fl_ea (.iload_n 2) 1 2), some (fl_ex1 (.bipush 24) 2 24), none], [some (fl_ea (.if_icmp .le 5) 3 13), none, none, fl_el (fl_ex1 (.iconst (-1)) 1 (-1)) [], some (fl_e0 (.ireturn) 1), some (fl_e0 (.aload_n 0) 1), some (fl_ef (.getfield 31) 3 10 3 2 0 388), none], [none, some (fl_ef (.getfield 72) 3 7 0 2 0 230), none, none, some (fl_ea (.astore_n 3) 1 3), some (fl_ea (.iload_n 1) 1 1), some (fl_ea (.istore 4) 2 4), none], [some (fl_e0 (.lconst 0) 1), some (fl_ea (.lstore 5) 2 5), none, some (fl_ex1 (.iconst (-1)) 1 (-1)), some (fl_ea (.istore 7) 2 7), none, some (fl_e0 (.aload_n 0) 1), some (fl_ef (.getfield 47) 3 10 9 2 0 394)], [none, none, some (fl_ea (.aload_n 3) 1 3), fl_el (fl_ef (.invokevirtual 289) 3 27 2 1 32 960) [true, false, true, true, true, true, false, true], none, none, some (fl_e0 (.iconst 0) 1), some (fl_ea (.istore 8) 2 8)], [none, fl_el (fl_ea (.iload 8) 2 8) [true, false, true, true, true, true, false, true, true], none, some (fl_ea (.iload_n 2) 1 2), some (fl_ea (.if_icmp .ge 113) 3 157), none, none, some (fl_e0 (.iconst 0) 1)], [some (fl_ea (.istore 9) 2 9), none, some (fl_e0 (.iconst 0) 1), some (fl_ea (.istore 10) 2 10), none, fl_el (fl_ea (.iload 10) 2 10) [true, false, true, true, true, true, false, true, true, true, true], none, some (fl_ea (.aload_n 3) 1 3)], [some (fl_ef (.getfield 293) 3 4 0 0 0 78), none, none, some (fl_ea (.if_icmp .ge 38) 3 97), none, none, some (fl_ea (.iload 4) 2 4), none]], [[some (fl_ew (.ldc_w 306) 3 0 0 0 0 998 1103515245 0 []), none, none, some (fl_e0 (.imul) 1), some (fl_ex1 (.sipush 12345) 3 12345), none, none, some (fl_e0 (.iadd) 1)], [some (fl_ea (.istore 4) 2 4), none, some (fl_ea (.iload 9) 2 9), none, some (fl_ea (.iload 4) 2 4), none, some (fl_ex1 (.bipush 16) 2 16), none], [some (fl_e0 (.iushr) 1), some (fl_ex1 (.iconst 2) 1 2), some (fl_e0 (.irem) 1), some (fl_ex1 (.iconst 2) 1 2), some (fl_ea (.iload 10) 2 10), none, some (fl_e0 (.imul) 1), some (fl_e0 (.ishl) 1)], [some (fl_e0 (.ior) 1), some (fl_ea (.istore 9) 2 9), none, some (fl_ew (.iinc 10 1) 3 10 0 0 0 0 1 0 []), none, none, some (fl_ea (.goto (-41)) 3 53), none], [none, some (fl_e0 (.aload_n 0) 1), some (fl_ef (.getfield 47) 3 10 9 2 0 394), none, none, some (fl_ea (.aload_n 3) 1 3), some (fl_ea (.iload 9) 2 9), none], [some (fl_ea (.aload_n 3) 1 3), fl_el (fl_ef (.invokevirtual 239) 3 110 1 1 20 837) [true, false, true, true, true, true, false, true, true], none, none, fl_el (fl_ef (.invokevirtual 292) 3 116 4 1 80 961) [true, false, true, true, true, true, false, true, true], none, none, some (fl_e0 (.aload_n 0) 1)], [some (fl_ef (.getfield 47) 3 10 9 2 0 394), none, none, some (fl_ea (.aload_n 3) 1 3), fl_el (fl_ef (.invokevirtual 307) 3 119 2 1 80 962) [true, false, true, true, true, true, false, true, true], none, none, some (fl_ea (.lstore 10) 2 10)], [none, some (fl_ea (.lload 10) 2 10), none, some (fl_ea (.lload 5) 2 5), none, some (fl_ew (.ldc2_w 311) 3 0 0 0 0 738 0 (-1) []), none, none]], [[some (fl_e0 (.lxor) 1), some (fl_e0 (.land) 1), some (fl_e0 (.lconst 0) 1), some (fl_e0 (.lcmp) 1), some (fl_ea (.ifCond .eq 8) 3 140), none, none, some (fl_ea (.iload 8) 2 8)], [none, some (fl_ea (.goto 5) 3 142), none, none, some (fl_ea (.iload 7) 2 7), none, some (fl_ea (.istore 7) 2 7), none], [some (fl_ea (.lload 5) 2 5), none, some (fl_ea (.lload 10) 2 10), none, some (fl_e0 (.lor) 1), some (fl_ea (.lstore 5) 2 5), none, some (fl_ew (.iinc 8 1) 3 8 0 0 0 0 1 0 [])], [none, none, some (fl_ea (.goto (-113)) 3 41), none, none, some (fl_e0 (.aload_n 0) 1), some (fl_ea (.lload 5) 2 5), none], [fl_el (fl_ef (.invokevirtual 185) 3 125 2 1 58 739) [true, false, false, false, false, true, false, true], none, none, some (fl_e0 (.aload_n 0) 1), some (fl_ef (.getfield 18) 3 10 1 2 0 386), none, none, some (fl_ea (.iload 7) 2 7)], [none, some (fl_e0 (.i2l) 1), fl_el (fl_ef (.invokevirtual 91) 3 32 2 1 53 433) [false, false, false, false, false, true], none, none, some (fl_ea (.lload 5) 2 5), none, fl_el (fl_ef (.invokestatic 174) 3 126 1 0 32 743) []], [none, none, some (fl_e0 (.ireturn) 1)]]]
/-- FaultListsModel.draws(I)I -/
def fl_c250 : List (List (List (Option fl_E))) := [[[some (fl_e0 (.aload_n 0) 1), some (fl_e0 (.aload_n 0) 1), some (fl_ef (.getfield 342) 3 11 32 0 0 1153), none, none, some (fl_ew (.ldc_w 345) 3 0 0 0 0 1582 1103515245 0 []), none, none], [some (fl_e0 (.imul) 1), some (fl_ex1 (.sipush 12345) 3 12345), none, none, some (fl_e0 (.iadd) 1), some (fl_ef (.putfield 342) 3 11 32 0 0 1153), none, none], [fl_el (fl_e0 (.aload_n 0) 1) [true, true], some (fl_ef (.getfield 342) 3 11 32 0 0 1153), none, none, some (fl_ex1 (.bipush 16) 2 16), none, some (fl_e0 (.iushr) 1), some (fl_ea (.iload_n 1) 1 1)], [some (fl_e0 (.irem) 1), some (fl_e0 (.ireturn) 1)]]]
/-- FaultListsModel.drawn(II)I -/
def fl_c251 : List (List (List (Option fl_E))) := [[[some (fl_e0 (.aload_n 0) 1), some (fl_e0 (.iconst 0) 1), some (fl_ef (.putfield 3) 3 11 0 0 0 1121), none, none, fl_el (fl_ea (.iload_n 2) 1 2) [true, true, true], some (fl_e0 (.i2l) 1), some (fl_ew (.lconst 1) 1 0 0 0 0 0 0 1 [])], [some (fl_ew (.ldc2_w 346) 3 0 0 0 0 1577 0 24 []), none, none, fl_el (fl_ef (.invokestatic 21) 3 37 3 0 96 1112) [true, true, true], none, none, some (fl_ea (.ifCond .ne 5) 3 19), none], [none, some (fl_ex1 (.iconst (-1)) 1 (-1)), some (fl_e0 (.ireturn) 1), some (fl_e0 (.aload_n 0) 1), some (fl_ea (.iload_n 1) 1 1), some (fl_ef (.putfield 342) 3 11 32 0 0 1153), none, none], [fl_el (fl_e0 (.aload_n 0) 1) [true, false, true], some (fl_ea (.iload_n 2) 1 2), some (fl_ef (.putfield 214) 3 11 16 0 0 1137), none, none, fl_el (fl_e0 (.iconst 0) 1) [true, false, true], some (fl_ea (.istore_n 3) 1 3), fl_el (fl_ea (.iload_n 3) 1 3) [true, false, true, true]], [some (fl_ea (.iload_n 2) 1 2), some (fl_ea (.if_icmp .ge 53) 3 86), none, none, some (fl_e0 (.aload_n 0) 1), some (fl_ef (.getfield 77) 3 11 15 2 0 1136), none, none], [some (fl_ea (.iload_n 3) 1 3), some (fl_e0 (.iconst 0) 1), some (fl_e0 (.iastore) 1), fl_el (fl_e0 (.iconst 0) 1) [true, false, true, true], some (fl_ea (.istore 4) 2 4), none, fl_el (fl_ea (.iload 4) 2 4) [true, false, true, true, true], none], [some (fl_e0 (.aload_n 0) 1), fl_el (fl_ef (.invokevirtual 199) 3 129 1 1 27 1349) [true, false, true, true, true], none, none, some (fl_ea (.if_icmp .ge 28) 3 80), none, none, some (fl_e0 (.aload_n 0) 1)], [some (fl_ef (.getfield 77) 3 11 15 2 0 1136), none, none, some (fl_ea (.iload_n 3) 1 3), some (fl_e0 (.dup2) 1), some (fl_ea (.iaload) 1 2), some (fl_e0 (.aload_n 0) 1), some (fl_ex1 (.iconst 2) 1 2)]], [[fl_el (fl_ef (.invokevirtual 348) 3 250 2 1 43 1578) [true, false, true, true, true], none, none, some (fl_ex1 (.iconst 2) 1 2), some (fl_ea (.iload 4) 2 4), none, some (fl_e0 (.imul) 1), some (fl_e0 (.ishl) 1)], [some (fl_e0 (.ior) 1), some (fl_e0 (.iastore) 1), fl_el (fl_ew (.iinc 4 1) 3 4 0 0 0 0 1 0 []) [true, false, true, true, true], none, none, some (fl_ea (.goto (-31)) 3 46), none, none], [some (fl_ew (.iinc 3 1) 3 3 0 0 0 0 1 0 []), none, none, some (fl_ea (.goto (-52)) 3 31), none, none, some (fl_e0 (.aload_n 0) 1), fl_el (fl_ef (.invokevirtual 226) 3 138 1 1 59 1365) [true]], [none, none, some (fl_e0 (.lconst 0) 1), some (fl_ea (.lstore_n 3) 1 3), some (fl_ex1 (.iconst (-1)) 1 (-1)), some (fl_ea (.istore 5) 2 5), none, some (fl_e0 (.iconst 0) 1)], [some (fl_ea (.istore 6) 2 6), none, fl_el (fl_ea (.iload 6) 2 6) [true, false, false, true, false, true, true], none, some (fl_e0 (.aload_n 0) 1), fl_el (fl_ef (.invokevirtual 129) 3 88 1 1 27 1303) [true, false, false, true, false, true, true], none, none], [some (fl_ea (.if_icmp .ge 42) 3 146), none, none, some (fl_e0 (.aload_n 0) 1), some (fl_ea (.iload 6) 2 6), none, fl_el (fl_ef (.invokevirtual 229) 3 232 2 1 59 1546) [true, false, false, true, false, true, true], none], [none, some (fl_ea (.istore 7) 2 7), none, some (fl_ea (.lload_n 3) 1 3), some (fl_ea (.iload 7) 2 7), none, some (fl_ea (.ifCond .lt 10) 3 128), none], [none, some (fl_ew (.lconst 1) 1 0 0 0 0 0 0 1 []), some (fl_ea (.iload 6) 2 6), none, some (fl_e0 (.lshl) 1), some (fl_ea (.goto 4) 3 129), none, none]], [[some (fl_e0 (.lconst 0) 1), some (fl_e0 (.lor) 1), some (fl_ea (.lstore_n 3) 1 3), some (fl_ea (.iload 5) 2 5), none, some (fl_ea (.iload 7) 2 7), none, fl_el (fl_ef (.invokestatic 284) 3 50 2 0 32 1489) [true, false, false, true, false, false, true]], [none, none, some (fl_ea (.istore 5) 2 5), none, some (fl_ew (.iinc 6 1) 3 6 0 0 0 0 1 0 []), none, none, some (fl_ea (.goto (-45)) 3 98)], [none, none, some (fl_e0 (.aload_n 0) 1), some (fl_e0 (.iconst 0) 1), some (fl_ef (.putfield 11) 3 11 1 0 0 1122), none, none, fl_el (fl_e0 (.aload_n 0) 1) [true, false, false, true, false, true]], [some (fl_ea (.lload_n 3) 1 3), fl_el (fl_ef (.invokevirtual 250) 3 143 2 1 59 1405) [true, false, false, true, false, true], none, none, some (fl_e0 (.aload_n 0) 1), some (fl_ea (.iload 5) 2 5), none, some (fl_e0 (.i2l) 1)], [fl_el (fl_ef (.invokevirtual 250) 3 143 2 1 59 1405) [false, false, false, true], none, none, some (fl_ea (.lload_n 3) 1 3), fl_el (fl_ef (.invokestatic 254) 3 144 1 0 64 1409) [], none, none, some (fl_e0 (.ireturn) 1)]]]
/-- FaultLists.keep(I)Z -/
def fl_c252 : List (List (List (Option fl_E))) := [[[some (fl_ea (.iload_n 1) 1 1), some (fl_ew (.lookupswitch 63 #[(0, 27), (1, 45)]) 27 64 0 0 0 0 0 0 [(0, 28), (1, 46)]), none, none, none, none, none, none], [none, none, none, none, none, none, none, none], [none, none, none, none, none, none, none, none], [none, none, none, none, some (fl_e0 (.aload_n 0) 1), some (fl_ef (.getfield 35) 3 10 4 2 0 389), none, none], [some (fl_e0 (.aload_n 0) 1), some (fl_ef (.getfield 31) 3 10 3 2 0 388), none, none, fl_el (fl_ef (.invokevirtual 164) 3 149 2 1 39 753) [true], none, none, some (fl_e0 (.aload_n 0) 1)], [some (fl_ex1 (.iconst 1) 1 1), some (fl_ef (.putfield 313) 3 10 6 3 0 391), none, none, fl_el (fl_ex1 (.iconst 1) 1 1) [], some (fl_ef (.ireturn) 1 0 0 3 0 0), some (fl_e0 (.aload_n 0) 1), some (fl_ef (.getfield 38) 3 10 5 2 0 390)], [none, none, some (fl_e0 (.aload_n 0) 1), some (fl_ef (.getfield 31) 3 10 3 2 0 388), none, none, fl_el (fl_ef (.invokevirtual 164) 3 149 2 1 39 753) [true], none], [none, some (fl_e0 (.aload_n 0) 1), some (fl_ex1 (.iconst 1) 1 1), some (fl_ef (.putfield 316) 3 10 7 3 0 392), none, none, fl_el (fl_ex1 (.iconst 1) 1 1) [], some (fl_ef (.ireturn) 1 0 0 3 0 0)]], [[some (fl_e0 (.iconst 0) 1), some (fl_ef (.ireturn) 1 0 0 3 0 0)]]]
/-- FaultListsModel.keep(I)Z -/
def fl_c253 : List (List (List (Option fl_E))) := [[[some (fl_e0 (.aload_n 0) 1), some (fl_e0 (.iconst 0) 1), some (fl_ef (.putfield 3) 3 11 0 0 0 1121), none, none, fl_el (fl_ea (.iload_n 1) 1 1) [true, true], some (fl_e0 (.i2l) 1), some (fl_e0 (.lconst 0) 1)], [some (fl_ew (.lconst 1) 1 0 0 0 0 0 0 1 []), fl_el (fl_ef (.invokestatic 21) 3 37 3 0 96 1112) [true, true], none, none, some (fl_ea (.ifCond .ne 5) 3 17), none, none, some (fl_e0 (.iconst 0) 1)], [some (fl_ef (.ireturn) 1 0 0 3 0 0), some (fl_e0 (.aload_n 0) 1), some (fl_ef (.getfield 122) 3 11 33 2 0 1154), none, none, some (fl_ea (.iload_n 1) 1 1), some (fl_ex1 (.iconst 1) 1 1), some (fl_e0 (.bastore) 1)], [fl_el (fl_e0 (.aload_n 0) 1) [true, true], some (fl_e0 (.iconst 0) 1), some (fl_ex1 (.iconst 1) 1 1), some (fl_ea (.iload_n 1) 1 1), some (fl_e0 (.iadd) 1), some (fl_e0 (.iconst 0) 1), some (fl_ex1 (.bipush 126) 2 126), none], [fl_el (fl_ef (.invokevirtual 180) 3 87 5 1 107 1299) [true, true], none, none, some (fl_e0 (.aload_n 0) 1), some (fl_ef (.getfield 62) 3 11 8 2 0 1129), none, none, some (fl_ex1 (.iconst 1) 1 1)], [some (fl_ea (.iload_n 1) 1 1), some (fl_e0 (.iadd) 1), some (fl_e0 (.aload_n 0) 1), some (fl_ef (.getfield 62) 3 11 8 2 0 1129), none, none, some (fl_e0 (.iconst 0) 1), some (fl_e0 (.laload) 1)], [some (fl_e0 (.lastore) 1), fl_el (fl_ex1 (.iconst 1) 1 1) [], some (fl_ef (.ireturn) 1 0 0 3 0 0)]]]
/-- FaultLists.again(I)Z -/
def fl_c254 : List (List (List (Option fl_E))) := [[[some (fl_ea (.iload_n 1) 1 1), some (fl_ea (.ifCond .ne 23) 3 24), none, none, some (fl_e0 (.aload_n 0) 1), some (fl_ef (.getfield 313) 3 10 6 3 0 391), none, none], [some (fl_ea (.ifCond .eq 16) 3 24), none, none, some (fl_e0 (.aload_n 0) 1), some (fl_ef (.getfield 31) 3 10 3 2 0 388), none, none, some (fl_e0 (.aload_n 0) 1)], [some (fl_ef (.getfield 35) 3 10 4 2 0 389), none, none, fl_el (fl_ef (.invokevirtual 164) 3 149 2 1 39 753) [], none, none, some (fl_ex1 (.iconst 1) 1 1), some (fl_ef (.ireturn) 1 0 0 3 0 0)], [fl_el (fl_ea (.iload_n 1) 1 1) [true, true], some (fl_ex1 (.iconst 1) 1 1), some (fl_ea (.if_icmp .ne 23) 3 49), none, none, some (fl_e0 (.aload_n 0) 1), some (fl_ef (.getfield 316) 3 10 7 3 0 392), none], [none, some (fl_ea (.ifCond .eq 16) 3 49), none, none, some (fl_e0 (.aload_n 0) 1), some (fl_ef (.getfield 31) 3 10 3 2 0 388), none, none], [some (fl_e0 (.aload_n 0) 1), some (fl_ef (.getfield 38) 3 10 5 2 0 390), none, none, fl_el (fl_ef (.invokevirtual 164) 3 149 2 1 39 753) [], none, none, some (fl_ex1 (.iconst 1) 1 1)], [some (fl_ef (.ireturn) 1 0 0 3 0 0), fl_el (fl_e0 (.iconst 0) 1) [], some (fl_ef (.ireturn) 1 0 0 3 0 0)]]]
/-- FaultListsModel.again(I)Z -/
def fl_c255 : List (List (List (Option fl_E))) := [[[some (fl_e0 (.aload_n 0) 1), some (fl_e0 (.iconst 0) 1), some (fl_ef (.putfield 3) 3 11 0 0 0 1121), none, none, fl_el (fl_ea (.iload_n 1) 1 1) [true, true], some (fl_e0 (.i2l) 1), some (fl_e0 (.lconst 0) 1)], [some (fl_ew (.lconst 1) 1 0 0 0 0 0 0 1 []), fl_el (fl_ef (.invokestatic 21) 3 37 3 0 96 1112) [true, true], none, none, some (fl_ea (.ifCond .eq 12) 3 24), none, none, some (fl_e0 (.aload_n 0) 1)], [some (fl_ef (.getfield 122) 3 11 33 2 0 1154), none, none, some (fl_ea (.iload_n 1) 1 1), some (fl_ea (.baload) 1 4), some (fl_ea (.ifCond .ne 5) 3 26), none, none], [fl_el (fl_e0 (.iconst 0) 1) [], some (fl_ef (.ireturn) 1 0 0 3 0 0), some (fl_e0 (.aload_n 0) 1), some (fl_ex1 (.iconst 1) 1 1), some (fl_ea (.iload_n 1) 1 1), some (fl_e0 (.iadd) 1), some (fl_e0 (.iconst 0) 1), some (fl_e0 (.iconst 0) 1)], [some (fl_ex1 (.bipush 126) 2 126), none, fl_el (fl_ef (.invokevirtual 180) 3 87 5 1 107 1299) [true, true], none, none, some (fl_e0 (.aload_n 0) 1), some (fl_ef (.getfield 62) 3 11 8 2 0 1129), none], [none, some (fl_e0 (.iconst 0) 1), some (fl_e0 (.aload_n 0) 1), some (fl_ef (.getfield 62) 3 11 8 2 0 1129), none, none, some (fl_ex1 (.iconst 1) 1 1), some (fl_ea (.iload_n 1) 1 1)], [some (fl_e0 (.iadd) 1), some (fl_e0 (.laload) 1), some (fl_e0 (.lastore) 1), fl_el (fl_ex1 (.iconst 1) 1 1) [], some (fl_ef (.ireturn) 1 0 0 3 0 0)]]]
/-- FaultLists$Bench.lengthOfLists(LFaultLists$Net;)I -/
def fl_c256 : List (List (List (Option fl_E))) := [[[some (fl_e0 (.iconst 0) 1), some (fl_ea (.istore_n 2) 1 2), some (fl_e0 (.iconst 0) 1), some (fl_ea (.istore_n 3) 1 3), fl_el (fl_ea (.iload_n 3) 1 3) [true, true, true, true], some (fl_ea (.aload_n 1) 1 1), some (fl_ef (.getfield 70) 3 4 1 0 0 84), none], [none, some (fl_ea (.if_icmp .ge 20) 3 29), none, none, some (fl_ea (.iload_n 2) 1 2), some (fl_e0 (.aload_n 0) 1), some (fl_ea (.iload_n 3) 1 3), fl_el (fl_ef (.invokevirtual 67) 3 118 2 1 32 712) [true, true, false, true]], [none, none, fl_el (fl_ef (.invokestatic 73) 3 126 1 0 32 1015) [true, true, false, true], none, none, some (fl_e0 (.iadd) 1), some (fl_ea (.istore_n 2) 1 2), some (fl_ew (.iinc 3 1) 3 3 0 0 0 0 1 0 [])], [none, none, some (fl_ea (.goto (-22)) 3 4), none, none, some (fl_ea (.iload_n 2) 1 2), some (fl_e0 (.ireturn) 1)]]]
/-- FaultLists.count(I)I -/
def fl_c257 : List (List (List (Option fl_E))) := [[[some (fl_ea (.iload_n 1) 1 1), some (fl_ew (.tableswitch 227 0 12 #[67, 78, 89, 100, 111, 122, 133, 141, 152, 168, 179, 211, 219]) 67 228 0 0 0 0 0 0 [(0, 68), (1, 79), (2, 90), (3, 101), (4, 112), (5, 123), (6, 134), (7, 142), (8, 153), (9, 169), (10, 180), (11, 212), (12, 220)]), none, none, none, none, none, none], [none, none, none, none, none, none, none, none], [none, none, none, none, none, none, none, none], [none, none, none, none, none, none, none, none], [none, none, none, none, none, none, none, none], [none, none, none, none, none, none, none, none], [none, none, none, none, none, none, none, none], [none, none, none, none, none, none, none, none]], [[none, none, none, none, some (fl_e0 (.aload_n 0) 1), some (fl_ef (.getfield 31) 3 10 3 2 0 388), none, none], [some (fl_ef (.getfield 72) 3 7 0 2 0 230), none, none, some (fl_ef (.getfield 251) 3 4 1 0 0 85), none, none, some (fl_e0 (.ireturn) 1), some (fl_e0 (.aload_n 0) 1)], [some (fl_ef (.getfield 31) 3 10 3 2 0 388), none, none, some (fl_ef (.getfield 72) 3 7 0 2 0 230), none, none, some (fl_ef (.getfield 293) 3 4 0 0 0 78), none], [none, some (fl_e0 (.ireturn) 1), some (fl_e0 (.aload_n 0) 1), some (fl_ef (.getfield 31) 3 10 3 2 0 388), none, none, some (fl_ef (.getfield 72) 3 7 0 2 0 230), none], [none, some (fl_ef (.getfield 319) 3 4 3 0 0 93), none, none, some (fl_e0 (.ireturn) 1), some (fl_e0 (.aload_n 0) 1), some (fl_ef (.getfield 31) 3 10 3 2 0 388), none], [none, some (fl_ef (.getfield 72) 3 7 0 2 0 230), none, none, some (fl_ef (.getfield 153) 3 4 2 0 0 89), none, none, some (fl_e0 (.ireturn) 1)], [some (fl_e0 (.aload_n 0) 1), some (fl_ef (.getfield 31) 3 10 3 2 0 388), none, none, some (fl_ef (.getfield 72) 3 7 0 2 0 230), none, none, some (fl_ef (.getfield 277) 3 4 4 0 0 100)], [none, none, some (fl_e0 (.ireturn) 1), some (fl_e0 (.aload_n 0) 1), some (fl_ef (.getfield 31) 3 10 3 2 0 388), none, none, some (fl_ef (.getfield 72) 3 7 0 2 0 230)]], [[none, none, fl_el (fl_ef (.invokevirtual 229) 3 66 1 1 20 827) [], none, none, some (fl_e0 (.ireturn) 1), some (fl_e0 (.aload_n 0) 1), some (fl_ef (.getfield 31) 3 10 3 2 0 388)], [none, none, some (fl_ef (.getfield 167) 3 7 3 0 0 236), none, none, some (fl_e0 (.ireturn) 1), some (fl_e0 (.aload_n 0) 1), some (fl_ef (.getfield 31) 3 10 3 2 0 388)], [none, none, some (fl_ef (.getfield 213) 3 7 5 1 0 240), none, none, fl_el (fl_ef (.invokestatic 174) 3 126 1 0 32 743) [], none, none], [some (fl_e0 (.ireturn) 1), some (fl_e0 (.aload_n 0) 1), some (fl_ef (.getfield 31) 3 10 3 2 0 388), none, none, some (fl_ef (.getfield 111) 3 7 4 3 0 238), none, none], [some (fl_ea (.ifCond .eq 7) 3 167), none, none, some (fl_ex1 (.iconst 1) 1 1), some (fl_ea (.goto 4) 3 168), none, none, some (fl_e0 (.iconst 0) 1)], [fl_el (fl_e0 (.ireturn) 1) [], some (fl_e0 (.aload_n 0) 1), some (fl_ef (.getfield 31) 3 10 3 2 0 388), none, none, some (fl_ef (.getfield 286) 3 7 7 1 0 244), none, none], [fl_el (fl_ef (.invokestatic 174) 3 126 1 0 32 743) [], none, none, some (fl_e0 (.ireturn) 1), some (fl_e0 (.aload_n 0) 1), some (fl_ef (.getfield 31) 3 10 3 2 0 388), none, none], [some (fl_ef (.getfield 167) 3 7 3 0 0 236), none, none, some (fl_ea (.ifCond .ne 7) 3 194), none, none, some (fl_e0 (.iconst 0) 1), some (fl_ea (.goto 20) 3 211)]], [[none, none, some (fl_e0 (.aload_n 0) 1), some (fl_ef (.getfield 31) 3 10 3 2 0 388), none, none, some (fl_ef (.getfield 180) 3 7 1 2 0 232), none], [none, some (fl_e0 (.aload_n 0) 1), some (fl_ef (.getfield 31) 3 10 3 2 0 388), none, none, some (fl_ef (.getfield 72) 3 7 0 2 0 230), none, none], [fl_el (fl_ef (.invokevirtual 322) 3 256 2 1 64 1011) [], none, none, fl_el (fl_e0 (.ireturn) 1) [], some (fl_e0 (.aload_n 0) 1), some (fl_ef (.getfield 18) 3 10 1 2 0 386), none, none], [fl_el (fl_ef (.invokevirtual 87) 3 31 1 1 21 429) [], none, none, some (fl_e0 (.ireturn) 1), some (fl_e0 (.aload_n 0) 1), some (fl_ef (.getfield 14) 3 10 0 2 0 385), none, none], [fl_el (fl_ef (.invokevirtual 87) 3 31 1 1 21 429) [], none, none, some (fl_e0 (.ireturn) 1), some (fl_ex1 (.iconst (-1)) 1 (-1)), some (fl_e0 (.ireturn) 1)]]]
/-- FaultListsModel.registers()I -/
def fl_c258 : List (List (List (Option fl_E))) := [[[some (fl_e0 (.iconst 0) 1), some (fl_ea (.istore_n 1) 1 1), some (fl_e0 (.iconst 0) 1), some (fl_ea (.istore_n 2) 1 2), fl_el (fl_ea (.iload_n 2) 1 2) [true, true, true], some (fl_e0 (.aload_n 0) 1), fl_el (fl_ef (.invokevirtual 126) 3 95 1 1 27 1319) [true, true, true], none], [none, some (fl_ea (.if_icmp .ge 20) 3 29), none, none, some (fl_ea (.iload_n 1) 1 1), some (fl_e0 (.aload_n 0) 1), some (fl_ea (.iload_n 2) 1 2), fl_el (fl_ef (.invokevirtual 132) 3 97 2 1 43 1324) [true, false, true]], [none, none, fl_el (fl_ef (.invokestatic 49) 3 79 1 0 16 1271) [true, false, true], none, none, some (fl_e0 (.iadd) 1), some (fl_ea (.istore_n 1) 1 1), some (fl_ew (.iinc 2 1) 3 2 0 0 0 0 1 0 [])], [none, none, some (fl_ea (.goto (-22)) 3 4), none, none, some (fl_ea (.iload_n 1) 1 1), some (fl_e0 (.ireturn) 1)]]]
/-- FaultListsModel.detectedMany()I -/
def fl_c259 : List (List (List (Option fl_E))) := [[[some (fl_e0 (.aload_n 0) 1), fl_el (fl_ef (.invokevirtual 241) 3 141 1 1 43 1357) [true], none, none, some (fl_e0 (.aload_n 0) 1), fl_el (fl_ef (.invokevirtual 244) 3 142 1 1 75 1400) [], none, none], [fl_el (fl_ef (.invokestatic 254) 3 144 1 0 64 1409) [], none, none, some (fl_e0 (.ireturn) 1)]]]
/-- FaultListsModel.listsLong()I -/
def fl_c260 : List (List (List (Option fl_E))) := [[[some (fl_e0 (.aload_n 0) 1), fl_el (fl_ef (.invokevirtual 211) 3 130 1 1 27 1353) [true], none, none, some (fl_ea (.ifCond .ne 5) 3 9), none, none, some (fl_e0 (.iconst 0) 1)], [some (fl_e0 (.ireturn) 1), some (fl_e0 (.aload_n 0) 1), fl_el (fl_ef (.invokevirtual 241) 3 141 1 1 43 1357) [true], none, none, some (fl_e0 (.iconst 0) 1), some (fl_ea (.istore_n 1) 1 1), some (fl_e0 (.iconst 0) 1)], [some (fl_ea (.istore_n 2) 1 2), fl_el (fl_ea (.iload_n 2) 1 2) [true, true, true], some (fl_e0 (.aload_n 0) 1), fl_el (fl_ef (.invokevirtual 126) 3 95 1 1 27 1319) [true, true, true], none, none, some (fl_ea (.if_icmp .ge 21) 3 43), none], [none, some (fl_ea (.iload_n 1) 1 1), some (fl_e0 (.aload_n 0) 1), some (fl_ea (.iload_n 2) 1 2), some (fl_e0 (.iconst 0) 1), fl_el (fl_ef (.invokevirtual 264) 3 160 3 1 171 1432) [true, false, true], none, none], [fl_el (fl_ef (.invokestatic 254) 3 144 1 0 64 1409) [true, false, true], none, none, some (fl_e0 (.iadd) 1), some (fl_ea (.istore_n 1) 1 1), some (fl_ew (.iinc 2 1) 3 2 0 0 0 0 1 0 []), none, none], [some (fl_ea (.goto (-23)) 3 17), none, none, some (fl_ea (.iload_n 1) 1 1), some (fl_e0 (.ireturn) 1)]]]
/-- FaultListsModel.count(I)I -/
def fl_c261 : List (List (List (Option fl_E))) := [[[some (fl_e0 (.aload_n 0) 1), some (fl_e0 (.iconst 0) 1), some (fl_ef (.putfield 3) 3 11 0 0 0 1121), none, none, fl_el (fl_ea (.iload_n 1) 1 1) [true, true], some (fl_ew (.tableswitch 143 0 12 #[66, 71, 76, 81, 88, 95, 100, 105, 110, 118, 128, 133, 138]) 66 149 0 0 0 0 0 0 [(0, 72), (1, 77), (2, 82), (3, 87), (4, 94), (5, 101), (6, 106), (7, 111), (8, 116), (9, 124), (10, 134), (11, 139), (12, 144)]), none], [none, none, none, none, none, none, none, none], [none, none, none, none, none, none, none, none], [none, none, none, none, none, none, none, none], [none, none, none, none, none, none, none, none], [none, none, none, none, none, none, none, none], [none, none, none, none, none, none, none, none], [none, none, none, none, none, none, none, none]], [[none, none, none, none, none, none, none, none], [some (fl_e0 (.aload_n 0) 1), fl_el (fl_ef (.invokevirtual 126) 3 95 1 1 27 1319) [], none, none, some (fl_e0 (.ireturn) 1), some (fl_e0 (.aload_n 0) 1), fl_el (fl_ef (.invokevirtual 199) 3 129 1 1 27 1349) [], none], [none, some (fl_e0 (.ireturn) 1), some (fl_e0 (.aload_n 0) 1), fl_el (fl_ef (.invokevirtual 351) 3 258 1 1 59 1595) [], none, none, some (fl_e0 (.ireturn) 1), some (fl_e0 (.aload_n 0) 1)], [some (fl_ef (.getfield 59) 3 11 7 2 0 1128), none, none, some (fl_ex1 (.iconst 2) 1 2), some (fl_ea (.iaload) 1 2), some (fl_e0 (.ireturn) 1), some (fl_e0 (.aload_n 0) 1), some (fl_ef (.getfield 59) 3 11 7 2 0 1128)], [none, none, some (fl_ex1 (.iconst 3) 1 3), some (fl_ea (.iaload) 1 2), some (fl_e0 (.ireturn) 1), some (fl_e0 (.aload_n 0) 1), fl_el (fl_ef (.invokevirtual 129) 3 88 1 1 27 1303) [], none], [none, some (fl_e0 (.ireturn) 1), some (fl_e0 (.aload_n 0) 1), fl_el (fl_ef (.invokevirtual 211) 3 130 1 1 27 1353) [], none, none, some (fl_e0 (.ireturn) 1), some (fl_e0 (.aload_n 0) 1)], [fl_el (fl_ef (.invokevirtual 354) 3 259 1 1 27 1599) [], none, none, some (fl_e0 (.ireturn) 1), some (fl_e0 (.aload_n 0) 1), some (fl_ef (.getfield 59) 3 11 7 2 0 1128), none, none], [some (fl_ex1 (.bipush 77) 2 77), none, some (fl_ea (.iaload) 1 2), some (fl_e0 (.ireturn) 1), some (fl_e0 (.aload_n 0) 1), some (fl_ef (.getfield 62) 3 11 8 2 0 1129), none, none]], [[some (fl_e0 (.iconst 0) 1), some (fl_e0 (.laload) 1), fl_el (fl_ef (.invokestatic 254) 3 144 1 0 64 1409) [], none, none, some (fl_e0 (.ireturn) 1), some (fl_e0 (.aload_n 0) 1), fl_el (fl_ef (.invokevirtual 357) 3 260 1 1 59 1603) []], [none, none, some (fl_e0 (.ireturn) 1), some (fl_e0 (.aload_n 0) 1), some (fl_ef (.getfield 11) 3 11 1 0 0 1122), none, none, some (fl_e0 (.ireturn) 1)], [some (fl_e0 (.aload_n 0) 1), some (fl_ef (.getfield 14) 3 11 4 0 0 1125), none, none, some (fl_e0 (.ireturn) 1), some (fl_ex1 (.iconst (-1)) 1 (-1)), some (fl_e0 (.ireturn) 1)]]]
/-- FaultLists.row(I)J -/
def fl_c262 : List (List (List (Option fl_E))) := [[[some (fl_ea (.iload_n 1) 1 1), some (fl_ea (.ifCond .lt 14) 3 15), none, none, some (fl_ea (.iload_n 1) 1 1), some (fl_e0 (.aload_n 0) 1), some (fl_ef (.getfield 18) 3 10 1 2 0 386), none], [none, fl_el (fl_ef (.invokevirtual 87) 3 31 1 1 21 429) [true, true], none, none, some (fl_ea (.if_icmp .lt 11) 3 23), none, none, fl_el (fl_ef (.new 128) 3 0 0 1 0 1024) []], [none, none, none, none, none, none, none, some (fl_e0 (.aload_n 0) 1)], [some (fl_ef (.getfield 18) 3 10 1 2 0 386), none, none, some (fl_ea (.iload_n 1) 1 1), fl_el (fl_ef (.invokevirtual 326) 3 106 2 1 37 652) [], none, none, some (fl_e0 (.lreturn) 1)]]]
/-- FaultListsLaw.row(LFaultLists;I[J)I -/
def fl_c263 : List (List (List (Option fl_E))) := [[[some (fl_ea (.aload_n 2) 1 2), some (fl_e0 (.iconst 0) 1), some (fl_e0 (.aload_n 0) 1), some (fl_ea (.iload_n 1) 1 1), fl_el (fl_ew (.invokevirtual 19) 3 262 2 1 42 1096 0 0 [(0, 12)]) [], none, none, some (fl_e0 (.lastore) 1)], [some (fl_ea (.goto 6) 3 14), none, none, none, some (fl_ex1 (.iconst 1) 1 1), some (fl_e0 (.ireturn) 1), some (fl_e0 (.iconst 0) 1), some (fl_e0 (.ireturn) 1)]]]
/-- FaultListsModel.row(I)J -/
def fl_c264 : List (List (List (Option fl_E))) := [[[some (fl_e0 (.aload_n 0) 1), some (fl_ea (.iload_n 1) 1 1), some (fl_e0 (.i2l) 1), some (fl_e0 (.lconst 0) 1), some (fl_e0 (.aload_n 0) 1), some (fl_ef (.getfield 11) 3 11 1 0 0 1122), none, none], [some (fl_ex1 (.iconst 1) 1 1), some (fl_e0 (.isub) 1), some (fl_e0 (.i2l) 1), fl_el (fl_ef (.invokestatic 21) 3 37 3 0 96 1112) [true, true], none, none, some (fl_ea (.ifCond .ne 7) 3 21), none], [none, some (fl_ex1 (.iconst 1) 1 1), some (fl_ea (.goto 4) 3 22), none, none, some (fl_e0 (.iconst 0) 1), fl_el (fl_ef (.invokestatic 49) 3 79 1 0 16 1271) [true, true], none], [none, some (fl_ef (.putfield 3) 3 11 0 0 0 1121), none, none, fl_el (fl_e0 (.aload_n 0) 1) [true, true], some (fl_ef (.getfield 3) 3 11 0 0 0 1121), none, none], [some (fl_ex1 (.iconst 1) 1 1), some (fl_ea (.if_icmp .ne 7) 3 40), none, none, some (fl_e0 (.lconst 0) 1), some (fl_ea (.goto 9) 3 46), none, none], [some (fl_e0 (.aload_n 0) 1), some (fl_ef (.getfield 7) 3 11 2 2 0 1123), none, none, some (fl_ea (.iload_n 1) 1 1), some (fl_e0 (.laload) 1), some (fl_e0 (.lreturn) 1)]]]
/-- FaultListsLaw.law([I)Z -/
def fl_c265 : List (List (List (Option fl_E))) := [[[some (fl_ef (.new 8) 3 10 13 0 0 25), none, none, some (fl_e0 (.dup) 1), fl_el (fl_ef (.invokespecial 23) 3 29 1 2 16 27) [true], none, none, some (fl_ea (.astore_n 1) 1 1)], [some (fl_ef (.new 24) 3 11 34 0 0 1115), none, none, some (fl_e0 (.dup) 1), fl_el (fl_ef (.invokespecial 26) 3 30 1 2 16 1117) [true, true], none, none, some (fl_ea (.astore_n 2) 1 2)], [some (fl_ex1 (.iconst 1) 1 1), some (fl_ea (.newarray .long) 2 3), none, some (fl_ea (.astore_n 3) 1 3), some (fl_e0 (.iconst 0) 1), some (fl_ea (.istore 4) 2 4), none, fl_el (fl_ea (.iload 4) 2 4) [true, true, true, true, true]], [none, some (fl_e0 (.aload_n 0) 1), some (fl_ea (.arraylength) 1 6), some (fl_ex1 (.iconst 3) 1 3), some (fl_e0 (.isub) 1), some (fl_ea (.if_icmp .gt 919) 3 948), none, none], [some (fl_e0 (.aload_n 0) 1), some (fl_ea (.iload 4) 2 4), none, some (fl_ea (.iaload) 1 6), some (fl_ex1 (.bipush 31) 2 31), none, some (fl_e0 (.iand) 1), some (fl_ew (.tableswitch 903 0 29 #[133, 158, 183, 196, 233, 301, 357, 370, 383, 396, 421, 446, 483, 508, 521, 546, 583, 608, 621, 646, 671, 684, 697, 710, 723, 736, 773, 798, 823, 848]) 133 942 0 0 0 0 0 0 [(0, 172), (1, 197), (2, 222), (3, 235), (4, 272), (5, 340), (6, 396), (7, 409), (8, 422), (9, 435), (10, 460), (11, 485), (12, 522), (13, 547), (14, 560), (15, 585), (16, 622), (17, 647), (18, 660), (19, 685), (20, 710), (21, 723), (22, 736), (23, 749), (24, 762), (25, 775), (26, 812), (27, 837), (28, 862), (29, 887)])], [none, none, none, none, none, none, none, none], [none, none, none, none, none, none, none, none], [none, none, none, none, none, none, none, none]], [[none, none, none, none, none, none, none, none], [none, none, none, none, none, none, none, none], [none, none, none, none, none, none, none, none], [none, none, none, none, none, none, none, none], [none, none, none, none, none, none, none, none], [none, none, none, none, none, none, none, none], [none, none, none, none, none, none, none, none], [none, none, none, none, none, none, none, none]], [[none, none, none, none, none, none, none, none], [none, none, none, none, none, none, none, none], [none, none, none, none, none, none, none, none], [none, none, none, none, none, none, none, none], [none, none, none, none, none, none, none, none], [none, none, none, none, some (fl_ea (.aload_n 1) 1 1), some (fl_e0 (.aload_n 0) 1), some (fl_ea (.iload 4) 2 4), none], [some (fl_ex1 (.iconst 1) 1 1), some (fl_e0 (.iadd) 1), some (fl_ea (.iaload) 1 6), fl_el (fl_ef (.invokevirtual 27) 3 33 2 1 58 425) [true, true, true, true, true], none, none, some (fl_ea (.aload_n 2) 1 2), some (fl_e0 (.aload_n 0) 1)], [some (fl_ea (.iload 4) 2 4), none, some (fl_ex1 (.iconst 1) 1 1), some (fl_e0 (.iadd) 1), some (fl_ea (.iaload) 1 6), fl_el (fl_ef (.invokevirtual 30) 3 34 2 1 59 1104) [true, true, true, true, true], none, none]], [[some (fl_ea (.if_icmp .eq 750) 3 942), none, none, some (fl_e0 (.iconst 0) 1), some (fl_ef (.ireturn) 1 0 0 3 0 0), some (fl_ea (.aload_n 1) 1 1), some (fl_e0 (.aload_n 0) 1), some (fl_ea (.iload 4) 2 4)], [none, some (fl_ex1 (.iconst 1) 1 1), some (fl_e0 (.iadd) 1), some (fl_ea (.iaload) 1 6), fl_el (fl_ef (.invokevirtual 31) 3 36 2 1 42 438) [true, true, true, true, true], none, none, some (fl_ea (.aload_n 2) 1 2)], [some (fl_e0 (.aload_n 0) 1), some (fl_ea (.iload 4) 2 4), none, some (fl_ex1 (.iconst 1) 1 1), some (fl_e0 (.iadd) 1), some (fl_ea (.iaload) 1 6), fl_el (fl_ef (.invokevirtual 35) 3 38 2 1 43 1108) [true, true, true, true, true], none], [none, some (fl_ea (.if_icmp .eq 725) 3 942), none, none, some (fl_e0 (.iconst 0) 1), some (fl_ef (.ireturn) 1 0 0 3 0 0), some (fl_ea (.aload_n 1) 1 1), fl_el (fl_ef (.invokevirtual 36) 3 71 1 1 42 446) [true, true, true, true, true]], [none, none, some (fl_ea (.aload_n 2) 1 2), fl_el (fl_ef (.invokevirtual 40) 3 89 1 1 43 1226) [true, true, true, true, true], none, none, some (fl_ea (.if_icmp .eq 712) 3 942), none], [none, some (fl_e0 (.iconst 0) 1), some (fl_ef (.ireturn) 1 0 0 3 0 0), some (fl_ea (.aload_n 1) 1 1), some (fl_e0 (.aload_n 0) 1), some (fl_ea (.iload 4) 2 4), none, some (fl_ex1 (.iconst 1) 1 1)], [some (fl_e0 (.iadd) 1), some (fl_ea (.iaload) 1 6), some (fl_e0 (.aload_n 0) 1), some (fl_ea (.iload 4) 2 4), none, some (fl_ex1 (.iconst 2) 1 2), some (fl_e0 (.iadd) 1), some (fl_ea (.iaload) 1 6)], [fl_el (fl_ef (.invokevirtual 41) 3 90 3 1 58 635) [true, true, true, true, true], none, none, some (fl_ea (.aload_n 2) 1 2), some (fl_e0 (.aload_n 0) 1), some (fl_ea (.iload 4) 2 4), none, some (fl_ex1 (.iconst 1) 1 1)]], [[some (fl_e0 (.iadd) 1), some (fl_ea (.iaload) 1 6), some (fl_e0 (.aload_n 0) 1), some (fl_ea (.iload 4) 2 4), none, some (fl_ex1 (.iconst 2) 1 2), some (fl_e0 (.iadd) 1), some (fl_ea (.iaload) 1 6)], [fl_el (fl_ef (.invokevirtual 44) 3 91 3 1 59 1307) [true, true, true, true, true], none, none, some (fl_ea (.if_icmp .eq 675) 3 942), none, none, some (fl_e0 (.iconst 0) 1), some (fl_ef (.ireturn) 1 0 0 3 0 0)], [some (fl_ea (.aload_n 1) 1 1), some (fl_e0 (.aload_n 0) 1), some (fl_ea (.iload 4) 2 4), none, some (fl_ex1 (.iconst 1) 1 1), some (fl_e0 (.iadd) 1), some (fl_ea (.iaload) 1 6), some (fl_e0 (.aload_n 0) 1)], [some (fl_ea (.iload 4) 2 4), none, some (fl_ex1 (.iconst 2) 1 2), some (fl_e0 (.iadd) 1), some (fl_ea (.iaload) 1 6), some (fl_ea (.aload_n 3) 1 3), fl_el (fl_ef (.invokestatic 45) 3 94 4 0 80 1016) [true, true, true, true, true], none], [none, some (fl_ea (.istore 5) 2 5), none, some (fl_ea (.aload_n 2) 1 2), some (fl_e0 (.aload_n 0) 1), some (fl_ea (.iload 4) 2 4), none, some (fl_ex1 (.iconst 1) 1 1)], [some (fl_e0 (.iadd) 1), some (fl_ea (.iaload) 1 6), some (fl_e0 (.aload_n 0) 1), some (fl_ea (.iload 4) 2 4), none, some (fl_ex1 (.iconst 2) 1 2), some (fl_e0 (.iadd) 1), some (fl_ea (.iaload) 1 6)], [fl_el (fl_ef (.invokevirtual 50) 3 100 3 1 59 1311) [true, true, true, true, true, true], none, none, some (fl_ea (.istore 6) 2 6), none, some (fl_ea (.aload_n 2) 1 2), fl_el (fl_ef (.invokevirtual 51) 3 101 1 1 27 1100) [true, true, true, true, true, true, true], none], [none, some (fl_ea (.iload 5) 2 5), none, some (fl_ea (.if_icmp .eq 5) 3 320), none, none, some (fl_e0 (.iconst 0) 1), some (fl_ef (.ireturn) 1 0 0 3 0 0)]], [[some (fl_ea (.iload 5) 2 5), none, some (fl_ea (.ifCond .ne 15) 3 337), none, none, some (fl_ea (.aload_n 3) 1 3), some (fl_e0 (.iconst 0) 1), some (fl_e0 (.laload) 1)], [some (fl_ea (.iload 6) 2 6), none, some (fl_e0 (.i2l) 1), some (fl_e0 (.lcmp) 1), some (fl_ea (.ifCond .eq 5) 3 337), none, none, some (fl_e0 (.iconst 0) 1)], [some (fl_ef (.ireturn) 1 0 0 3 0 0), fl_el (fl_ea (.goto 605) 3 942) [true, true, true, true, true], none, none, some (fl_ea (.aload_n 1) 1 1), some (fl_e0 (.aload_n 0) 1), some (fl_ea (.iload 4) 2 4), none], [some (fl_ex1 (.iconst 1) 1 1), some (fl_e0 (.iadd) 1), some (fl_ea (.iaload) 1 6), some (fl_ea (.aload_n 3) 1 3), fl_el (fl_ef (.invokestatic 54) 3 103 3 0 64 1086) [true, true, true, true, true], none, none, some (fl_ea (.istore 5) 2 5)], [none, some (fl_ea (.aload_n 2) 1 2), some (fl_e0 (.aload_n 0) 1), some (fl_ea (.iload 4) 2 4), none, some (fl_ex1 (.iconst 1) 1 1), some (fl_e0 (.iadd) 1), some (fl_ea (.iaload) 1 6)], [fl_el (fl_ef (.invokevirtual 57) 3 104 2 1 43 1336) [true, true, true, true, true, true], none, none, some (fl_ea (.istore 6) 2 6), none, some (fl_ea (.aload_n 2) 1 2), fl_el (fl_ef (.invokevirtual 51) 3 101 1 1 27 1100) [true, true, true, true, true, true, true], none], [none, some (fl_ea (.iload 5) 2 5), none, some (fl_ea (.if_icmp .eq 5) 3 376), none, none, some (fl_e0 (.iconst 0) 1), some (fl_ef (.ireturn) 1 0 0 3 0 0)], [some (fl_ea (.iload 5) 2 5), none, some (fl_ea (.ifCond .ne 15) 3 393), none, none, some (fl_ea (.aload_n 3) 1 3), some (fl_e0 (.iconst 0) 1), some (fl_e0 (.laload) 1)]], [[some (fl_ea (.iload 6) 2 6), none, some (fl_e0 (.i2l) 1), some (fl_e0 (.lcmp) 1), some (fl_ea (.ifCond .eq 5) 3 393), none, none, some (fl_e0 (.iconst 0) 1)], [some (fl_ef (.ireturn) 1 0 0 3 0 0), fl_el (fl_ea (.goto 549) 3 942) [true, true, true, true, true], none, none, some (fl_ea (.aload_n 1) 1 1), fl_el (fl_ef (.invokevirtual 58) 3 128 1 1 26 640) [true, true, true, true, true], none, none], [some (fl_ea (.aload_n 2) 1 2), fl_el (fl_ef (.invokevirtual 61) 3 146 1 1 27 1340) [true, true, true, true, true], none, none, some (fl_ea (.if_icmp .eq 538) 3 942), none, none, some (fl_e0 (.iconst 0) 1)], [some (fl_ef (.ireturn) 1 0 0 3 0 0), some (fl_ea (.aload_n 1) 1 1), fl_el (fl_ef (.invokevirtual 62) 3 150 1 1 26 749) [true, true, true, true, true], none, none, some (fl_ea (.aload_n 2) 1 2), fl_el (fl_ef (.invokevirtual 65) 3 151 1 1 43 1412) [true, true, true, true, true], none], [none, some (fl_ea (.if_icmp .eq 525) 3 942), none, none, some (fl_e0 (.iconst 0) 1), some (fl_ef (.ireturn) 1 0 0 3 0 0), some (fl_ea (.aload_n 1) 1 1), fl_el (fl_ef (.invokevirtual 66) 3 152 1 1 42 768) [true, true, true, true, true]], [none, none, some (fl_ea (.aload_n 2) 1 2), fl_el (fl_ef (.invokevirtual 69) 3 153 1 1 43 1416) [true, true, true, true, true], none, none, some (fl_ea (.if_icmp .eq 512) 3 942), none], [none, some (fl_e0 (.iconst 0) 1), some (fl_ef (.ireturn) 1 0 0 3 0 0), some (fl_ea (.aload_n 1) 1 1), some (fl_e0 (.aload_n 0) 1), some (fl_ea (.iload 4) 2 4), none, some (fl_ex1 (.iconst 1) 1 1)], [some (fl_e0 (.iadd) 1), some (fl_ea (.iaload) 1 6), fl_el (fl_ef (.invokevirtual 70) 3 154 2 1 42 772) [true, true, true, true, true], none, none, some (fl_ea (.aload_n 2) 1 2), some (fl_e0 (.aload_n 0) 1), some (fl_ea (.iload 4) 2 4)]], [[none, some (fl_ex1 (.iconst 1) 1 1), some (fl_e0 (.iadd) 1), some (fl_ea (.iaload) 1 6), fl_el (fl_ef (.invokevirtual 73) 3 156 2 1 43 1420) [true, true, true, true, true], none, none, some (fl_ea (.if_icmp .eq 487) 3 942)], [none, none, some (fl_e0 (.iconst 0) 1), some (fl_ef (.ireturn) 1 0 0 3 0 0), some (fl_ea (.aload_n 1) 1 1), some (fl_e0 (.aload_n 0) 1), some (fl_ea (.iload 4) 2 4), none], [some (fl_ex1 (.iconst 1) 1 1), some (fl_e0 (.iadd) 1), some (fl_ea (.iaload) 1 6), fl_el (fl_ef (.invokevirtual 74) 3 159 2 1 42 776) [true, true, true, true, true], none, none, some (fl_ea (.aload_n 2) 1 2), some (fl_e0 (.aload_n 0) 1)], [some (fl_ea (.iload 4) 2 4), none, some (fl_ex1 (.iconst 1) 1 1), some (fl_e0 (.iadd) 1), some (fl_ea (.iaload) 1 6), fl_el (fl_ef (.invokevirtual 77) 3 161 2 1 43 1428) [true, true, true, true, true], none, none], [some (fl_ea (.if_icmp .eq 462) 3 942), none, none, some (fl_e0 (.iconst 0) 1), some (fl_ef (.ireturn) 1 0 0 3 0 0), some (fl_ea (.aload_n 1) 1 1), some (fl_e0 (.aload_n 0) 1), some (fl_ea (.iload 4) 2 4)], [none, some (fl_ex1 (.iconst 1) 1 1), some (fl_e0 (.iadd) 1), some (fl_ea (.iaload) 1 6), some (fl_e0 (.aload_n 0) 1), some (fl_ea (.iload 4) 2 4), none, some (fl_ex1 (.iconst 2) 1 2)], [some (fl_e0 (.iadd) 1), some (fl_ea (.iaload) 1 6), fl_el (fl_ef (.invokevirtual 78) 3 163 3 1 58 791) [true, true, true, true, true], none, none, some (fl_ea (.aload_n 2) 1 2), some (fl_e0 (.aload_n 0) 1), some (fl_ea (.iload 4) 2 4)], [none, some (fl_ex1 (.iconst 1) 1 1), some (fl_e0 (.iadd) 1), some (fl_ea (.iaload) 1 6), some (fl_e0 (.aload_n 0) 1), some (fl_ea (.iload 4) 2 4), none, some (fl_ex1 (.iconst 2) 1 2)]], [[some (fl_e0 (.iadd) 1), some (fl_ea (.iaload) 1 6), fl_el (fl_ef (.invokevirtual 81) 3 165 3 1 59 1436) [true, true, true, true, true], none, none, some (fl_ea (.if_icmp .eq 425) 3 942), none, none], [some (fl_e0 (.iconst 0) 1), some (fl_ef (.ireturn) 1 0 0 3 0 0), some (fl_ea (.aload_n 1) 1 1), some (fl_e0 (.aload_n 0) 1), some (fl_ea (.iload 4) 2 4), none, some (fl_ex1 (.iconst 1) 1 1), some (fl_e0 (.iadd) 1)], [some (fl_ea (.iaload) 1 6), fl_el (fl_ef (.invokevirtual 82) 3 168 2 1 42 799) [true, true, true, true, true], none, none, some (fl_ea (.aload_n 2) 1 2), some (fl_e0 (.aload_n 0) 1), some (fl_ea (.iload 4) 2 4), none], [some (fl_ex1 (.iconst 1) 1 1), some (fl_e0 (.iadd) 1), some (fl_ea (.iaload) 1 6), fl_el (fl_ef (.invokevirtual 85) 3 169 2 1 91 1444) [true, true, true, true, true], none, none, some (fl_ea (.if_icmp .eq 400) 3 942), none], [none, some (fl_e0 (.iconst 0) 1), some (fl_ef (.ireturn) 1 0 0 3 0 0), some (fl_ea (.aload_n 1) 1 1), fl_el (fl_ef (.invokevirtual 86) 3 170 1 1 26 812) [true, true, true, true, true], none, none, some (fl_ea (.aload_n 2) 1 2)], [fl_el (fl_ef (.invokevirtual 89) 3 171 1 1 27 1448) [true, true, true, true, true], none, none, some (fl_ea (.if_icmp .eq 387) 3 942), none, none, some (fl_e0 (.iconst 0) 1), some (fl_ef (.ireturn) 1 0 0 3 0 0)], [some (fl_ea (.aload_n 1) 1 1), some (fl_e0 (.aload_n 0) 1), some (fl_ea (.iload 4) 2 4), none, some (fl_ex1 (.iconst 1) 1 1), some (fl_e0 (.iadd) 1), some (fl_ea (.iaload) 1 6), fl_el (fl_ef (.invokevirtual 90) 3 172 2 1 42 816) [true, true, true, true, true]], [none, none, some (fl_ea (.aload_n 2) 1 2), some (fl_e0 (.aload_n 0) 1), some (fl_ea (.iload 4) 2 4), none, some (fl_ex1 (.iconst 1) 1 1), some (fl_e0 (.iadd) 1)]], [[some (fl_ea (.iaload) 1 6), fl_el (fl_ef (.invokevirtual 93) 3 173 2 1 43 1452) [true, true, true, true, true], none, none, some (fl_ea (.if_icmp .eq 362) 3 942), none, none, some (fl_e0 (.iconst 0) 1)], [some (fl_ef (.ireturn) 1 0 0 3 0 0), some (fl_ea (.aload_n 1) 1 1), some (fl_e0 (.aload_n 0) 1), some (fl_ea (.iload 4) 2 4), none, some (fl_ex1 (.iconst 1) 1 1), some (fl_e0 (.iadd) 1), some (fl_ea (.iaload) 1 6)], [some (fl_e0 (.aload_n 0) 1), some (fl_ea (.iload 4) 2 4), none, some (fl_ex1 (.iconst 2) 1 2), some (fl_e0 (.iadd) 1), some (fl_ea (.iaload) 1 6), fl_el (fl_ef (.invokevirtual 94) 3 174 3 1 106 823) [true, true, true, true, true], none], [none, some (fl_ea (.aload_n 2) 1 2), some (fl_e0 (.aload_n 0) 1), some (fl_ea (.iload 4) 2 4), none, some (fl_ex1 (.iconst 1) 1 1), some (fl_e0 (.iadd) 1), some (fl_ea (.iaload) 1 6)], [some (fl_e0 (.aload_n 0) 1), some (fl_ea (.iload 4) 2 4), none, some (fl_ex1 (.iconst 2) 1 2), some (fl_e0 (.iadd) 1), some (fl_ea (.iaload) 1 6), fl_el (fl_ef (.invokevirtual 97) 3 188 3 1 107 1456) [true, true, true, true, true], none], [none, some (fl_ea (.if_icmp .eq 325) 3 942), none, none, some (fl_e0 (.iconst 0) 1), some (fl_ef (.ireturn) 1 0 0 3 0 0), some (fl_ea (.aload_n 1) 1 1), some (fl_e0 (.aload_n 0) 1)], [some (fl_ea (.iload 4) 2 4), none, some (fl_ex1 (.iconst 1) 1 1), some (fl_e0 (.iadd) 1), some (fl_ea (.iaload) 1 6), fl_el (fl_ef (.invokevirtual 98) 3 191 2 1 154 828) [true, true, true, true, true], none, none], [some (fl_ea (.aload_n 2) 1 2), some (fl_e0 (.aload_n 0) 1), some (fl_ea (.iload 4) 2 4), none, some (fl_ex1 (.iconst 1) 1 1), some (fl_e0 (.iadd) 1), some (fl_ea (.iaload) 1 6), fl_el (fl_ef (.invokevirtual 101) 3 193 2 1 107 1464) [true, true, true, true, true]]], [[none, none, some (fl_ea (.if_icmp .eq 300) 3 942), none, none, some (fl_e0 (.iconst 0) 1), some (fl_ef (.ireturn) 1 0 0 3 0 0), some (fl_ea (.aload_n 1) 1 1)], [fl_el (fl_ef (.invokevirtual 102) 3 197 1 1 122 846) [true, true, true, true, true], none, none, some (fl_ea (.aload_n 2) 1 2), fl_el (fl_ef (.invokevirtual 105) 3 202 1 1 91 1472) [true, true, true, true, true], none, none, some (fl_ea (.if_icmp .eq 287) 3 942)], [none, none, some (fl_e0 (.iconst 0) 1), some (fl_ef (.ireturn) 1 0 0 3 0 0), some (fl_ea (.aload_n 1) 1 1), some (fl_e0 (.aload_n 0) 1), some (fl_ea (.iload 4) 2 4), none], [some (fl_ex1 (.iconst 1) 1 1), some (fl_e0 (.iadd) 1), some (fl_ea (.iaload) 1 6), fl_el (fl_ef (.invokevirtual 106) 3 203 2 1 42 873) [true, true, true, true, true], none, none, some (fl_ea (.aload_n 2) 1 2), some (fl_e0 (.aload_n 0) 1)], [some (fl_ea (.iload 4) 2 4), none, some (fl_ex1 (.iconst 1) 1 1), some (fl_e0 (.iadd) 1), some (fl_ea (.iaload) 1 6), fl_el (fl_ef (.invokevirtual 109) 3 204 2 1 43 1494) [true, true, true, true, true], none, none], [some (fl_ea (.if_icmp .eq 262) 3 942), none, none, some (fl_e0 (.iconst 0) 1), some (fl_ef (.ireturn) 1 0 0 3 0 0), some (fl_ea (.aload_n 1) 1 1), some (fl_e0 (.aload_n 0) 1), some (fl_ea (.iload 4) 2 4)], [none, some (fl_ex1 (.iconst 1) 1 1), some (fl_e0 (.iadd) 1), some (fl_ea (.iaload) 1 6), fl_el (fl_ef (.invokevirtual 110) 3 219 2 1 74 877) [true, true, true, true, true], none, none, some (fl_ea (.aload_n 2) 1 2)], [some (fl_e0 (.aload_n 0) 1), some (fl_ea (.iload 4) 2 4), none, some (fl_ex1 (.iconst 1) 1 1), some (fl_e0 (.iadd) 1), some (fl_ea (.iaload) 1 6), fl_el (fl_ef (.invokevirtual 113) 3 226 2 1 75 1498) [true, true, true, true, true], none]], [[none, some (fl_ea (.if_icmp .eq 237) 3 942), none, none, some (fl_e0 (.iconst 0) 1), some (fl_ef (.ireturn) 1 0 0 3 0 0), some (fl_ea (.aload_n 1) 1 1), fl_el (fl_ef (.invokevirtual 114) 3 227 1 1 138 948) [true, true, true, true, true]], [none, none, some (fl_ea (.aload_n 2) 1 2), fl_el (fl_ef (.invokevirtual 117) 3 228 1 1 139 1526) [true, true, true, true, true], none, none, some (fl_ea (.if_icmp .eq 224) 3 942), none], [none, some (fl_e0 (.iconst 0) 1), some (fl_ef (.ireturn) 1 0 0 3 0 0), some (fl_ea (.aload_n 1) 1 1), fl_el (fl_ef (.invokevirtual 118) 3 230 1 1 74 952) [true, true, true, true, true], none, none, some (fl_ea (.aload_n 2) 1 2)], [fl_el (fl_ef (.invokevirtual 121) 3 235 1 1 91 1530) [true, true, true, true, true], none, none, some (fl_ea (.if_icmp .eq 211) 3 942), none, none, some (fl_e0 (.iconst 0) 1), some (fl_ef (.ireturn) 1 0 0 3 0 0)], [some (fl_ea (.aload_n 1) 1 1), fl_el (fl_ef (.invokevirtual 122) 3 236 1 1 58 963) [true, true, true, true, true], none, none, some (fl_ea (.aload_n 2) 1 2), fl_el (fl_ef (.invokevirtual 125) 3 237 1 1 91 1550) [true, true, true, true, true], none, none], [some (fl_ea (.if_icmp .eq 198) 3 942), none, none, some (fl_e0 (.iconst 0) 1), some (fl_ef (.ireturn) 1 0 0 3 0 0), some (fl_ea (.aload_n 1) 1 1), fl_el (fl_ef (.invokevirtual 126) 3 240 1 1 58 967) [true, true, true, true, true], none], [none, some (fl_ea (.aload_n 2) 1 2), fl_el (fl_ef (.invokevirtual 129) 3 242 1 1 91 1554) [true, true, true, true, true], none, none, some (fl_ea (.if_icmp .eq 185) 3 942), none, none], [some (fl_e0 (.iconst 0) 1), some (fl_ef (.ireturn) 1 0 0 3 0 0), some (fl_ea (.aload_n 1) 1 1), fl_el (fl_ef (.invokevirtual 130) 3 245 1 1 106 979) [true, true, true, true, true], none, none, some (fl_ea (.aload_n 2) 1 2), fl_el (fl_ef (.invokevirtual 133) 3 248 1 1 91 1562) [true, true, true, true, true]]], [[none, none, some (fl_ea (.if_icmp .eq 172) 3 942), none, none, some (fl_e0 (.iconst 0) 1), some (fl_ef (.ireturn) 1 0 0 3 0 0), some (fl_ea (.aload_n 1) 1 1)], [some (fl_e0 (.aload_n 0) 1), some (fl_ea (.iload 4) 2 4), none, some (fl_ex1 (.iconst 1) 1 1), some (fl_e0 (.iadd) 1), some (fl_ea (.iaload) 1 6), some (fl_e0 (.aload_n 0) 1), some (fl_ea (.iload 4) 2 4)], [none, some (fl_ex1 (.iconst 2) 1 2), some (fl_e0 (.iadd) 1), some (fl_ea (.iaload) 1 6), fl_el (fl_ef (.invokevirtual 134) 3 249 3 1 202 994) [true, true, true, true, true], none, none, some (fl_ea (.aload_n 2) 1 2)], [some (fl_e0 (.aload_n 0) 1), some (fl_ea (.iload 4) 2 4), none, some (fl_ex1 (.iconst 1) 1 1), some (fl_e0 (.iadd) 1), some (fl_ea (.iaload) 1 6), some (fl_e0 (.aload_n 0) 1), some (fl_ea (.iload 4) 2 4)], [none, some (fl_ex1 (.iconst 2) 1 2), some (fl_e0 (.iadd) 1), some (fl_ea (.iaload) 1 6), fl_el (fl_ef (.invokevirtual 137) 3 251 3 1 139 1573) [true, true, true, true, true], none, none, some (fl_ea (.if_icmp .eq 135) 3 942)], [none, none, some (fl_e0 (.iconst 0) 1), some (fl_ef (.ireturn) 1 0 0 3 0 0), some (fl_ea (.aload_n 1) 1 1), some (fl_e0 (.aload_n 0) 1), some (fl_ea (.iload 4) 2 4), none], [some (fl_ex1 (.iconst 1) 1 1), some (fl_e0 (.iadd) 1), some (fl_ea (.iaload) 1 6), fl_el (fl_ef (.invokevirtual 138) 3 252 2 1 42 999) [true, true, true, true, true], none, none, some (fl_ea (.aload_n 2) 1 2), some (fl_e0 (.aload_n 0) 1)], [some (fl_ea (.iload 4) 2 4), none, some (fl_ex1 (.iconst 1) 1 1), some (fl_e0 (.iadd) 1), some (fl_ea (.iaload) 1 6), fl_el (fl_ef (.invokevirtual 141) 3 253 2 1 43 1583) [true, true, true, true, true], none, none]], [[some (fl_ea (.if_icmp .eq 110) 3 942), none, none, some (fl_e0 (.iconst 0) 1), some (fl_ef (.ireturn) 1 0 0 3 0 0), some (fl_ea (.aload_n 1) 1 1), some (fl_e0 (.aload_n 0) 1), some (fl_ea (.iload 4) 2 4)], [none, some (fl_ex1 (.iconst 1) 1 1), some (fl_e0 (.iadd) 1), some (fl_ea (.iaload) 1 6), fl_el (fl_ef (.invokevirtual 142) 3 254 2 1 42 1003) [true, true, true, true, true], none, none, some (fl_ea (.aload_n 2) 1 2)], [some (fl_e0 (.aload_n 0) 1), some (fl_ea (.iload 4) 2 4), none, some (fl_ex1 (.iconst 1) 1 1), some (fl_e0 (.iadd) 1), some (fl_ea (.iaload) 1 6), fl_el (fl_ef (.invokevirtual 145) 3 255 2 1 43 1587) [true, true, true, true, true], none], [none, some (fl_ea (.if_icmp .eq 85) 3 942), none, none, some (fl_e0 (.iconst 0) 1), some (fl_ef (.ireturn) 1 0 0 3 0 0), some (fl_ea (.aload_n 1) 1 1), some (fl_e0 (.aload_n 0) 1)], [some (fl_ea (.iload 4) 2 4), none, some (fl_ex1 (.iconst 1) 1 1), some (fl_e0 (.iadd) 1), some (fl_ea (.iaload) 1 6), fl_el (fl_ef (.invokevirtual 146) 3 257 2 1 42 1007) [true, true, true, true, true], none, none], [some (fl_ea (.aload_n 2) 1 2), some (fl_e0 (.aload_n 0) 1), some (fl_ea (.iload 4) 2 4), none, some (fl_ex1 (.iconst 1) 1 1), some (fl_e0 (.iadd) 1), some (fl_ea (.iaload) 1 6), fl_el (fl_ef (.invokevirtual 149) 3 261 2 1 43 1591) [true, true, true, true, true]], [none, none, some (fl_ea (.if_icmp .eq 60) 3 942), none, none, some (fl_e0 (.iconst 0) 1), some (fl_ef (.ireturn) 1 0 0 3 0 0), some (fl_ea (.aload_n 1) 1 1)], [some (fl_e0 (.aload_n 0) 1), some (fl_ea (.iload 4) 2 4), none, some (fl_ex1 (.iconst 1) 1 1), some (fl_e0 (.iadd) 1), some (fl_ea (.iaload) 1 6), some (fl_ea (.aload_n 3) 1 3), fl_el (fl_ef (.invokestatic 150) 3 263 3 0 64 1093) [true, true, true, true, true]]], [[none, none, some (fl_ea (.istore 5) 2 5), none, some (fl_ea (.aload_n 2) 1 2), some (fl_e0 (.aload_n 0) 1), some (fl_ea (.iload 4) 2 4), none], [some (fl_ex1 (.iconst 1) 1 1), some (fl_e0 (.iadd) 1), some (fl_ea (.iaload) 1 6), fl_el (fl_ef (.invokevirtual 152) 3 264 2 1 43 1607) [true, true, true, true, true, true], none, none, some (fl_ea (.lstore 6) 2 6), none], [some (fl_ea (.aload_n 2) 1 2), fl_el (fl_ef (.invokevirtual 51) 3 101 1 1 27 1100) [true, true, true, true, true, true, true], none, none, some (fl_ea (.iload 5) 2 5), none, some (fl_ea (.if_icmp .eq 5) 3 923), none], [none, some (fl_e0 (.iconst 0) 1), some (fl_ef (.ireturn) 1 0 0 3 0 0), some (fl_ea (.iload 5) 2 5), none, some (fl_ea (.ifCond .ne 14) 3 939), none, none], [some (fl_ea (.aload_n 3) 1 3), some (fl_e0 (.iconst 0) 1), some (fl_e0 (.laload) 1), some (fl_ea (.lload 6) 2 6), none, some (fl_e0 (.lcmp) 1), some (fl_ea (.ifCond .eq 5) 3 939), none], [none, some (fl_e0 (.iconst 0) 1), some (fl_ef (.ireturn) 1 0 0 3 0 0), fl_el (fl_ea (.goto 3) 3 942) [true, true, true, true, true], none, none, fl_el (fl_ew (.iinc 4 3) 3 4 0 0 0 0 3 0 []) [true, true, true, true, true], none], [none, some (fl_ea (.goto (-922)) 3 23), none, none, some (fl_ex1 (.iconst 1) 1 1), some (fl_ef (.ireturn) 1 0 0 3 0 0)]]]
def fl_code : List (List (List (Option (List (List (List (Option fl_E))))))) := [[[none, none, none, none, none, none, none, none], [none, none, some fl_c10, some fl_c11, some fl_c12, some fl_c13, some fl_c14, some fl_c15], [some fl_c16, some fl_c17, some fl_c18, some fl_c19, some fl_c20, some fl_c21, some fl_c22, some fl_c23], [some fl_c24, some fl_c25, some fl_c26, some fl_c27, some fl_c28, some fl_c29, some fl_c30, some fl_c31], [some fl_c32, some fl_c33, some fl_c34, some fl_c35, some fl_c36, some fl_c37, some fl_c38, some fl_c39], [some fl_c40, some fl_c41, some fl_c42, some fl_c43, some fl_c44, some fl_c45, some fl_c46, some fl_c47], [some fl_c48, some fl_c49, some fl_c50, some fl_c51, some fl_c52, some fl_c53, some fl_c54, some fl_c55], [some fl_c56, some fl_c57, some fl_c58, some fl_c59, some fl_c60, some fl_c61, some fl_c62, some fl_c63]], [[some fl_c64, some fl_c65, some fl_c66, some fl_c67, some fl_c68, some fl_c69, some fl_c70, some fl_c71], [some fl_c72, some fl_c73, some fl_c74, some fl_c75, some fl_c76, some fl_c77, some fl_c78, some fl_c79], [some fl_c80, some fl_c81, some fl_c82, some fl_c83, some fl_c84, some fl_c85, some fl_c86, some fl_c87], [some fl_c88, some fl_c89, some fl_c90, some fl_c91, some fl_c92, some fl_c93, some fl_c94, some fl_c95], [some fl_c96, some fl_c97, some fl_c98, some fl_c99, some fl_c100, some fl_c101, some fl_c102, some fl_c103], [some fl_c104, some fl_c105, some fl_c106, some fl_c107, some fl_c108, some fl_c109, some fl_c110, some fl_c111], [some fl_c112, some fl_c113, some fl_c114, some fl_c115, some fl_c116, some fl_c117, some fl_c118, some fl_c119], [some fl_c120, some fl_c121, some fl_c122, some fl_c123, some fl_c124, some fl_c125, some fl_c126, some fl_c127]], [[some fl_c128, some fl_c129, some fl_c130, some fl_c131, some fl_c132, some fl_c133, some fl_c134, some fl_c135], [some fl_c136, some fl_c137, some fl_c138, some fl_c139, some fl_c140, some fl_c141, some fl_c142, some fl_c143], [some fl_c144, some fl_c145, some fl_c146, some fl_c147, some fl_c148, some fl_c149, some fl_c150, some fl_c151], [some fl_c152, some fl_c153, some fl_c154, some fl_c155, some fl_c156, some fl_c157, some fl_c158, some fl_c159], [some fl_c160, some fl_c161, some fl_c162, some fl_c163, some fl_c164, some fl_c165, some fl_c166, some fl_c167], [some fl_c168, some fl_c169, some fl_c170, some fl_c171, some fl_c172, some fl_c173, some fl_c174, some fl_c175], [some fl_c176, some fl_c177, some fl_c178, some fl_c179, some fl_c180, some fl_c181, some fl_c182, some fl_c183], [some fl_c184, some fl_c185, some fl_c186, some fl_c187, some fl_c188, some fl_c189, some fl_c190, some fl_c191]], [[some fl_c192, some fl_c193, some fl_c194, some fl_c195, some fl_c196, some fl_c197, some fl_c198, some fl_c199], [some fl_c200, some fl_c201, some fl_c202, some fl_c203, some fl_c204, some fl_c205, some fl_c206, some fl_c207], [some fl_c208, some fl_c209, some fl_c210, some fl_c211, some fl_c212, some fl_c213, some fl_c214, some fl_c215], [some fl_c216, some fl_c217, some fl_c218, some fl_c219, some fl_c220, some fl_c221, some fl_c222, some fl_c223], [some fl_c224, some fl_c225, some fl_c226, some fl_c227, some fl_c228, some fl_c229, some fl_c230, some fl_c231], [some fl_c232, some fl_c233, some fl_c234, some fl_c235, some fl_c236, some fl_c237, some fl_c238, some fl_c239], [some fl_c240, some fl_c241, some fl_c242, some fl_c243, some fl_c244, some fl_c245, some fl_c246, some fl_c247], [some fl_c248, some fl_c249, some fl_c250, some fl_c251, some fl_c252, some fl_c253, some fl_c254, some fl_c255]], [[some fl_c256, some fl_c257, some fl_c258, some fl_c259, some fl_c260, some fl_c261, some fl_c262, some fl_c263], [some fl_c264, some fl_c265]]]
def fl_C (m pc : Nat) : Option fl_E := match fl_n3 fl_code m with
  | some l => fl_n3 l pc
  | none => none
end
section
/-! WHAT THE ABSTRACT MACHINE'S HEAP AND LOCALS STAND FOR -/
/-- base, String constants, their bytes, the script, the formatter -/
abbrev fl_V : Type := Nat × (Nat → Nat) × (Nat → Nat) × Nat × Value
def fl_ad (w : fl_V) (k : Nat) : Nat := if k < 1048576 then w.1 + k else if k < 1048592 then w.2.1 (k - 1048576) else if k < 1048608 then w.2.2.1 (k - 1048592) else w.2.2.2.1
def fl_cv (w : fl_V) : Value → Value
  | .ref k => .ref (fl_ad w k)
  | .retAddr _ => w.2.2.2.2
  | v => v
/-- the formatter is null or a reference -/
def fl_fm (w : fl_V) : Prop := w.2.2.2.2.category = 1
theorem fl_cv_cat {w : fl_V} (hw : fl_fm w) (v : Value) : (fl_cv w v).category = v.category := by
  cases v <;> first | rfl | exact hw
theorem fl_two_cat (v : Value) : fl_two (some v) = true ↔ v.category = 2 := by
  cases v <;> simp [fl_two, Value.category]
/-- the free part -/
abbrev fl_Af (w : fl_V) : Nat → Prop := fun q => w.1 ≤ q
def fl_slen : List Nat := [8, 4, 1, 12, 2, 1, 3]
def fl_sbyt : List (List Int32) := [[33, 61, 38, 124, 94, 110, 114, 35], [49, 50, 51, 52], [59], [97, 98, 99, 100, 101, 102, 103, 104, 105, 106, 107, 108], [48, 49], [58], [48, 49, 117]]
def fl_nest : List (String × Nat × MethodName × String) := [("FaultLists", 23, ⟨"FaultLists$Reader", "<init>", "()V"⟩, "FaultLists"), ("FaultLists$Reader", 11, ⟨"FaultLists$Net", "<init>", "()V"⟩, "FaultLists"), ("FaultLists", 30, ⟨"FaultLists$Run", "<init>", "()V"⟩, "FaultLists"), ("FaultLists$Run", 11, ⟨"FaultLists$Net", "<init>", "()V"⟩, "FaultLists"), ("FaultLists$Run", 20, ⟨"FaultLists$Bench", "<init>", "()V"⟩, "FaultLists"), ("FaultLists$Bench", 9, ⟨"FaultLists$Side", "<init>", "()V"⟩, "FaultLists"), ("FaultLists", 46, ⟨"FaultLists$Bench", "<init>", "()V"⟩, "FaultLists"), ("FaultLists", 53, ⟨"FaultLists$Side", "<init>", "()V"⟩, "FaultLists"), ("FaultLists", 60, ⟨"FaultLists$Kin", "<init>", "()V"⟩, "FaultLists"), ("FaultLists", 67, ⟨"FaultLists$Search", "<init>", "()V"⟩, "FaultLists"), ("FaultLists$Search", 22, ⟨"FaultLists$Moves", "<init>", "()V"⟩, "FaultLists"), ("FaultLists$Moves", 13, ⟨"FaultLists$Side", "<init>", "()V"⟩, "FaultLists"), ("FaultLists$Run", 106, ⟨"FaultLists", "hasBit", "(JI)Z"⟩, "FaultLists"), ("FaultLists$Side", 95, ⟨"FaultLists", "hasBit", "(JI)Z"⟩, "FaultLists"), ("FaultLists$Kin", 75, ⟨"FaultLists", "hasBit", "(JI)Z"⟩, "FaultLists"), ("FaultLists$Moves", 100, ⟨"FaultLists", "hasBit", "(JI)Z"⟩, "FaultLists")]
def fl_strs : List (String × Nat × String × Nat) := [("FaultLists$Reader", 74, "!=&|^nr#", 0), ("FaultListsModel", 162, "1234", 1), ("FaultListsModel", 164, ";", 2), ("FaultListsModel", 148, "!=&|^nr#", 0), ("FaultListsModel", 142, "abcdefghijkl", 3), ("FaultListsModel", 157, "01", 4), ("FaultListsModel", 169, ":", 5), ("FaultListsModel", 239, "01u", 6)]
/-- what holds all along -/
def fl_EX (D : va_G) (G : ClassId × ClassId × ClassId) (w : fl_V) (Ls : Nat) (xs : Nat → Int32) (U : State) (H : Heap) : Prop :=
  va_K D vwCl [(G.1, .int), (G.2.1, .long), (G.2.2, .boolean)] U ∧
  ((∀ x ∈ fl_nest, va_Nw (.methodLinkNest x.1 x.2.1 x.2.2.1 x.2.2.2) U) ∧ (∀ q ∈ lw_tbl, q.tabsOnly = true → va_Nw q U)) ∧
  (∀ x ∈ fl_strs, vk_R x.1 x.2.1 x.2.2.1 (w.2.1 x.2.2.2) U) ∧
  vk_S 7 fl_slen fl_sbyt w.2.1 w.2.2.1 (fl_Af w) U H ∧
  va_Z "java/lang/String" "COMPACT_STRINGS" "Z" (.int 1) (fl_Af w) U H ∧
  va_Z "jdk/internal/util/Preconditions" "SIOOBE_FORMATTER" "Ljava/util/function/BiFunction;" w.2.2.2.2 (fl_Af w) U H ∧
  vx_Zq Bundle.tN "UNASSIGNED_STACK" Bundle.steD (fl_Af w) U H ∧ vx_Zq Bundle.tN "SUPPRESSED_SENTINEL" Bundle.listD (fl_Af w) U H ∧
  va_X w.2.2.2.1 Ls xs U H ∧ (w.2.2.2.1 < w.1 ∧ w.1 ≤ H.size ∧ fl_fm w)
theorem fl_tabs {s U : State} {q : Cond} (hW : s.WarmedH U.vm) (hk : q.tabsOnly = true) (h : va_Nw q s) : va_Nw q U := by
  have h9 : q.before #[] (U.setVm U.vm) = true := Cond.tabsOnly_warm (args' := #[]) (T := U) hW q hk h
  rw [State.setVm_self] at h9
  exact h9
theorem fl_EX.to {D : va_G} {G : ClassId × ClassId × ClassId} {w : fl_V} {Ls : Nat} {xs : Nat → Int32} {s U : State} {H0 H : Heap} (h : fl_EX D G w Ls xs s H0) (hW : s.WarmedH U.vm) (hz : H0.size ≤ H.size) (hq : ∀ a : Nat, a < H0.size → ¬ fl_Af w a → H[a]? = H0[a]?) : fl_EX D G w Ls xs U H := by
  obtain ⟨h1, h2, h3, h4, h5, h6, h7, h8, h9, h10, h11, h12⟩ := h
  refine ⟨h1.moved hW.alike, ⟨fun x hx => va_Nw.warmM hW (h2.1 x hx), fun q hq hk => fl_tabs hW hk (h2.2 q hq hk)⟩, fun x hx => (h3 x hx).warm hW, (h4.moved hW.alike).kept hq, (h5.moved hW.alike).kept hq, (h6.moved hW.alike).kept hq, (h7.moved hW.alike).kept hq, (h8.moved hW.alike).kept hq, (h9.moved hW.alike).kept (hq _ (Nat.lt_of_lt_of_le h10 h11) (Nat.not_le.mpr h10)), h10, Nat.le_trans h11 hz, h12⟩
def fl_fv (w : fl_V) (h : fl_H) (k j t : Nat) : Value := match t with
  | 1 => .long (fl_l h k j)
  | 2 => match fl_r h k j with
    | none => .null
    | some q => .ref (fl_ad w q)
  | _ => .int (fl_i h k j)
def fl_fs (w : fl_V) (h : fl_H) (k : Nat) : List Nat → Nat → List Value
  | [], _ => []
  | t :: ts, j => fl_fv w h k j t :: fl_fs w h k ts (j + 1)
theorem fl_fs_at (w : fl_V) (h : fl_H) (k : Nat) : ∀ (ts : List Nat) (j i : Nat), (fl_fs w h k ts j)[i]? = (ts[i]?).map (fun t => fl_fv w h k (j + i) t)
  | [], _, _ => rfl
  | t :: ts, j, 0 => rfl
  | t :: ts, j, i + 1 => by
    rw [fl_fs, List.getElem?_cons_succ, List.getElem?_cons_succ, fl_fs_at w h k ts (j + 1) i, show j + 1 + i = j + (i + 1) by omega]
theorem fl_fs_len (w : fl_V) (h : fl_H) (k : Nat) : ∀ (ts : List Nat) (j : Nat), (fl_fs w h k ts j).length = ts.length
  | [], _ => rfl
  | t :: ts, j => by rw [fl_fs, List.length_cons, List.length_cons, fl_fs_len w h k ts (j + 1)]
def fl_cell (G : ClassId × ClassId × ClassId) (w : fl_V) (h : fl_H) (k : Nat) : va_E := match fl_k h k with
  | (1, c) => .inr (c, fl_fs w h k (fl_ft c) 0)
  | (3, n) => .inl (G.2.1, n, .inr (.inl (fl_l h k)))
  | (4, n) => .inl (G.2.2, n, .inl (fl_i h k))
  | (_, n) => .inl (G.1, n, .inl (fl_i h k))
def fl_ws (G : ClassId × ClassId × ClassId) (w : fl_V) (h : fl_H) : va_W := (List.range h.1.1).map (fun k => (w.1 + k, fl_cell G w h k))
theorem fl_ws_at {G : ClassId × ClassId × ClassId} {w : fl_V} {h : fl_H} {k : Nat} (hk : k < h.1.1) : (fl_ws G w h)[k]? = some (w.1 + k, fl_cell G w h k) := by
  unfold fl_ws
  rw [List.getElem?_map, List.getElem?_range hk]
  rfl
theorem fl_ws_len {G : ClassId × ClassId × ClassId} {w : fl_V} {h : fl_H} : (fl_ws G w h).length = h.1.1 := by
  unfold fl_ws; rw [List.length_map, List.length_range]
theorem fl_ws_of {G : ClassId × ClassId × ClassId} {w : fl_V} {h : fl_H} {k : Nat} {q : Nat × va_E} (hk : (fl_ws G w h)[k]? = some q) : k < h.1.1 ∧ q = (w.1 + k, fl_cell G w h k) := by
  have hl := (List.getElem?_eq_some_iff.mp hk).1
  rw [fl_ws_len] at hl
  exact ⟨hl, (Option.some.inj ((fl_ws_at hl).symm.trans hk)).symm⟩
theorem fl_ws_D {G : ClassId × ClassId × ClassId} {w : fl_V} {h : fl_H} : va_D (fl_Af w) (fl_ws G w h) := by
  refine ⟨fun i j p q hi hj e => ?_, fun k q hk => ?_⟩
  · have h1 := (fl_ws_of hi).2
    have h2 := (fl_ws_of hj).2
    rw [h1, h2] at e
    have e' : w.1 + i = w.1 + j := e
    omega
  · rw [(fl_ws_of hk).2]
    exact Nat.le_add_right _ _
/-- what lies outside: the constants and the script -/
def fl_X (Ls : Nat) (xs : Nat → Int32) (h : fl_H) : Prop := ∀ k, 1048576 ≤ k → (k < 1048583 ∧ fl_k h k = (7, k - 1048576)) ∨ (1048592 ≤ k ∧ k < 1048599 ∧ fl_k h k = (5, fl_slen.getD (k - 1048592) 0) ∧ fl_i h k = (fun j => (fl_sbyt.getD (k - 1048592) []).getD j 0)) ∨ (k = 1048608 ∧ fl_k h k = (6, Ls) ∧ fl_i h k = xs) ∨ (fl_k h k).1 = 0
def fl_R (D : va_G) (G : ClassId × ClassId × ClassId) (w : fl_V) (Ls : Nat) (xs : Nat → Int32) (h : fl_H) (H : Heap) : Prop :=
  va_P D vwCl (fl_ws G w h) H ∧ (h.1.2.2.2 = true → h.1.1 = h.1.2.1) ∧ (∀ k, k < 1048576 → (fl_k h k).1 < 5 ∧ (h.1.1 ≤ k → (fl_k h k).1 = 0)) ∧ h.1.1 ≤ 1048576 ∧ fl_X Ls xs h
/-- an inner cell's number -/
theorem fl_R.inner {D : va_G} {G : ClassId × ClassId × ClassId} {w : fl_V} {Ls : Nat} {xs : Nat → Int32} {h : fl_H} {H : Heap} (hR : fl_R D G w Ls xs h H) {k : Nat} (h0 : (fl_k h k).1 ≠ 0) (h5 : (fl_k h k).1 < 5) : k < h.1.1 := by
  obtain ⟨-, -, h2, -, hX⟩ := hR
  rcases Nat.lt_or_ge k h.1.1 with q | q
  · exact q
  · rcases Nat.lt_or_ge k 1048576 with q2 | q2
    · exact absurd ((h2 k q2).2 q) h0
    · rcases hX k q2 with ⟨-, e⟩ | ⟨-, -, e, -⟩ | ⟨-, e, -⟩ | e
      · rw [e] at h5; exact absurd h5 (by show ¬ 7 < 5; decide)
      · rw [e] at h5; exact absurd h5 (Nat.lt_irrefl 5)
      · rw [e] at h5; exact absurd h5 (by show ¬ 6 < 5; decide)
      · exact absurd e h0
theorem fl_R.ad {D : va_G} {G : ClassId × ClassId × ClassId} {w : fl_V} {Ls : Nat} {xs : Nat → Int32} {h : fl_H} {H : Heap} (hR : fl_R D G w Ls xs h H) {k : Nat} (hk : k < h.1.1) : fl_ad w k = w.1 + k := by
  unfold fl_ad
  rw [if_pos (Nat.lt_of_lt_of_le hk hR.2.2.2.1)]
/-- an outer number -/
theorem fl_R.outer {D : va_G} {G : ClassId × ClassId × ClassId} {w : fl_V} {Ls : Nat} {xs : Nat → Int32} {h : fl_H} {H : Heap} (hR : fl_R D G w Ls xs h H) {k : Nat} (h5 : 5 ≤ (fl_k h k).1) : (k < 1048583 ∧ 1048576 ≤ k ∧ fl_k h k = (7, k - 1048576)) ∨ (1048592 ≤ k ∧ k < 1048599 ∧ fl_k h k = (5, fl_slen.getD (k - 1048592) 0) ∧ fl_i h k = (fun j => (fl_sbyt.getD (k - 1048592) []).getD j 0)) ∨ (k = 1048608 ∧ fl_k h k = (6, Ls) ∧ fl_i h k = xs) := by
  obtain ⟨-, -, h2, -, hX⟩ := hR
  rcases Nat.lt_or_ge k 1048576 with q2 | q2
  · exact absurd (h2 k q2).1 (Nat.not_lt.mpr h5)
  · rcases hX k q2 with ⟨e0, e⟩ | e | e | e
    · exact Or.inl ⟨e0, q2, e⟩
    · exact Or.inr (Or.inl e)
    · exact Or.inr (Or.inr e)
    · rw [e] at h5; exact absurd h5 (by decide)
theorem fl_cell_obj {G : ClassId × ClassId × ClassId} {w : fl_V} {h : fl_H} {k a : Nat} (hk : fl_k h k = (1, a)) : fl_cell G w h k = .inr (a, fl_fs w h k (fl_ft a) 0) := by
  unfold fl_cell; rw [hk]; rfl
theorem fl_cell_int {G : ClassId × ClassId × ClassId} {w : fl_V} {h : fl_H} {k n : Nat} (hk : fl_k h k = (2, n)) : fl_cell G w h k = .inl (G.1, n, .inl (fl_i h k)) := by
  unfold fl_cell; rw [hk]; rfl
theorem fl_cell_long {G : ClassId × ClassId × ClassId} {w : fl_V} {h : fl_H} {k n : Nat} (hk : fl_k h k = (3, n)) : fl_cell G w h k = .inl (G.2.1, n, .inr (.inl (fl_l h k))) := by
  unfold fl_cell; rw [hk]; rfl
theorem fl_cell_bool {G : ClassId × ClassId × ClassId} {w : fl_V} {h : fl_H} {k n : Nat} (hk : fl_k h k = (4, n)) : fl_cell G w h k = .inl (G.2.2, n, .inl (fl_i h k)) := by
  unfold fl_cell; rw [hk]; rfl
theorem fl_fs_congr {w : fl_V} {h h' : fl_H} {k : Nat} (h1 : fl_i h' k = fl_i h k) (h2 : fl_l h' k = fl_l h k) (h3 : fl_r h' k = fl_r h k) : ∀ (ts : List Nat) (j : Nat), fl_fs w h' k ts j = fl_fs w h k ts j
  | [], _ => rfl
  | t :: ts, j => by
    rw [fl_fs, fl_fs, fl_fs_congr h1 h2 h3 ts (j + 1)]
    unfold fl_fv
    rw [h1, h2, h3]
theorem fl_cell_congr {G : ClassId × ClassId × ClassId} {w : fl_V} {h h' : fl_H} {k : Nat} (h0 : fl_k h' k = fl_k h k) (h1 : fl_i h' k = fl_i h k) (h2 : fl_l h' k = fl_l h k) (h3 : fl_r h' k = fl_r h k) : fl_cell G w h' k = fl_cell G w h k := by
  unfold fl_cell
  rw [h0, h1, h2]
  split
  · rw [fl_fs_congr h1 h2 h3]
  all_goals rfl
theorem fl_ws_upd {G : ClassId × ClassId × ClassId} {w : fl_V} {h h' : fl_H} {k : Nat} {c : va_E} (hn : h'.1.1 = h.1.1) (hc : fl_cell G w h' k = c) (ho : ∀ j, j ≠ k → fl_cell G w h' j = fl_cell G w h j) : fl_ws G w h' = (fl_ws G w h).set k (w.1 + k, c) := by
  apply List.ext_getElem?
  intro j
  by_cases hj : j < h.1.1
  · rw [fl_ws_at (by rw [hn]; exact hj)]
    by_cases e : j = k
    · subst e
      rw [List.getElem?_set_self (by rw [fl_ws_len]; exact hj), hc]
    · rw [List.getElem?_set_ne (Ne.symm e), fl_ws_at hj, ho j e]
  · rw [List.getElem?_eq_none (by rw [fl_ws_len, hn]; omega), List.getElem?_eq_none (by rw [List.length_set, fl_ws_len]; omega)]
theorem fl_u_self {α : Type} (f : Nat → Nat → α) (a j : Nat) (x : α) : fl_u f a j x a = fun k => if k = j then x else f a k := by
  funext k
  simp [fl_u]
theorem fl_u_ne {α : Type} (f : Nat → Nat → α) {a b : Nat} (j : Nat) (x : α) (h : b ≠ a) : fl_u f a j x b = f b := by
  funext k
  simp [fl_u, h]
/-- the same but for one cell -/
theorem fl_R.upd {D : va_G} {G : ClassId × ClassId × ClassId} {w : fl_V} {Ls : Nat} {xs : Nat → Int32} {h h' : fl_H} {H H1 : Heap} {k : Nat} {c : va_E} (hR : fl_R D G w Ls xs h H) (hk : k < h.1.1) (h1 : h'.1 = h.1) (hkd : fl_k h' = fl_k h) (hi : ∀ j, j ≠ k → fl_i h' j = fl_i h j) (hl : ∀ j, j ≠ k → fl_l h' j = fl_l h j) (hr : ∀ j, j ≠ k → fl_r h' j = fl_r h j)
    (hc : fl_cell G w h' k = c) (hP : va_P D vwCl ((fl_ws G w h).set k (w.1 + k, c)) H1) : fl_R D G w Ls xs h' H1 := by
  obtain ⟨-, r2, r3, r4, r5⟩ := hR
  refine ⟨?_, by rw [h1]; exact r2, by rw [h1, hkd]; exact r3, by rw [h1]; exact r4, fun j hj => ?_⟩
  · rw [fl_ws_upd (by rw [h1]) hc (fun j hj => fl_cell_congr (by rw [hkd]) (hi j hj) (hl j hj) (hr j hj))]
    exact hP
  · rw [hkd, hi j (fun e => by omega)]
    exact r5 j hj
/-! locals -/
def fl_LR (w : fl_V) (ls : Array Slot) (nL : Nat) (L : fl_L) : Prop := ls.size = nL ∧ lv_wf ls ∧ ∀ i v, fl_get L i = some v → ls[i]? = some (.val (fl_cv w v))
theorem fl_get_mask : ∀ (bs : List Bool) (L : fl_L) (i : Nat) (v : Value), fl_get (fl_mask bs L) i = some v → fl_get L i = some v
  | [], L, i, v, h => by
    cases L <;> cases h
  | _ :: _, [], i, v, h => by cases h
  | b :: bs, x :: L, 0, v, h => by
    cases b
    · cases h
    · exact h
  | b :: bs, x :: L, i + 1, v, h => fl_get_mask bs L i v h
theorem fl_LR.mask {w : fl_V} {ls : Array Slot} {nL : Nat} {L : fl_L} (h : fl_LR w ls nL L) (bs : List Bool) : fl_LR w ls nL (fl_mask bs L) := ⟨h.1, h.2.1, fun i v hv => h.2.2 i v (fl_get_mask bs L i v hv)⟩
theorem fl_LR.lb {w : fl_V} {ls : Array Slot} {nL : Nat} {L : fl_L} (C : Nat → Nat → Option fl_E) (m pc : Nat) (h : fl_LR w ls nL L) : fl_LR w ls nL (fl_lb C m pc L) := by
  unfold fl_lb
  rcases C m pc with _ | ⟨_, _, _, _, _, _, _, _, _, _, _ | bs⟩
  · exact h
  · exact h
  · exact h.mask bs
theorem fl_get_set : ∀ (L : fl_L) (i : Nat) (x : Option Value) (j : Nat), fl_get (fl_set L i x) j = if j = i then x else fl_get L j
  | [], 0, x, 0 => rfl
  | [], 0, x, j + 1 => by rw [if_neg (by omega)]; rfl
  | [], i + 1, x, 0 => by rw [if_neg (by omega)]; rfl
  | [], i + 1, x, j + 1 => by
    show fl_get (fl_set [] i x) j = _
    rw [fl_get_set [] i x j]
    by_cases e : j = i
    · rw [if_pos e, if_pos (by omega)]
    · rw [if_neg e, if_neg (by omega)]; cases j <;> rfl
  | y :: L, 0, x, 0 => rfl
  | y :: L, 0, x, j + 1 => by rw [if_neg (by omega)]; rfl
  | y :: L, i + 1, x, 0 => by rw [if_neg (by omega)]; rfl
  | y :: L, i + 1, x, j + 1 => by
    show fl_get (fl_set L i x) j = _
    rw [fl_get_set L i x j]
    by_cases e : j = i
    · rw [if_pos e, if_pos (by omega)]
    · rw [if_neg e, if_neg (by omega)]; rfl
/-- all that is listed, with its place -/
def fl_as (w : fl_V) : fl_L → Nat → List (Nat × Value)
  | [], _ => []
  | none :: l, i => fl_as w l (i + 1)
  | some v :: l, i => (i, fl_cv w v) :: fl_as w l (i + 1)
theorem fl_as_mem (w : fl_V) : ∀ (L : fl_L) (i : Nat) (q : Nat × Value), q ∈ fl_as w L i ↔ ∃ j v, q = (i + j, fl_cv w v) ∧ fl_get L j = some v
  | [], i, q => by
    constructor
    · intro h; cases h
    · rintro ⟨j, v, -, h⟩; cases h
  | x :: L, i, q => by
    have ih := fl_as_mem w L (i + 1) q
    have key : (∃ j v, q = (i + j, fl_cv w v) ∧ fl_get (x :: L) j = some v) ↔ (∃ v, q = (i, fl_cv w v) ∧ x = some v) ∨ ∃ j v, q = (i + 1 + j, fl_cv w v) ∧ fl_get L j = some v := by
      constructor
      · rintro ⟨j, v, h1, h2⟩
        cases j with
        | zero => exact Or.inl ⟨v, h1, h2⟩
        | succ j => exact Or.inr ⟨j, v, by rw [h1]; congr 1; omega, h2⟩
      · rintro (⟨v, h1, h2⟩ | ⟨j, v, h1, h2⟩)
        · exact ⟨0, v, h1, h2⟩
        · exact ⟨j + 1, v, by rw [h1]; congr 1; omega, h2⟩
    rw [key, ← ih]
    cases x with
    | none =>
      show q ∈ fl_as w L (i + 1) ↔ _
      constructor
      · exact fun h => Or.inr h
      · rintro (⟨v, -, h⟩ | h)
        · cases h
        · exact h
    | some y =>
      show q ∈ (i, fl_cv w y) :: fl_as w L (i + 1) ↔ _
      rw [List.mem_cons]
      constructor
      · rintro (h | h)
        · exact Or.inl ⟨y, h, rfl⟩
        · exact Or.inr h
      · rintro (⟨v, h1, h2⟩ | h)
        · cases h2; exact Or.inl h1
        · exact Or.inr h
theorem fl_LR.has {w : fl_V} {ls : Array Slot} {nL : Nat} {L : fl_L} (h : fl_LR w ls nL L) : lv_has ls nL (fl_as w L 0) := by
  refine ⟨h.1, h.2.1, fun q hq => ?_⟩
  obtain ⟨j, v, h1, h2⟩ := (fl_as_mem w L 0 q).mp hq
  rw [h1, Nat.zero_add]
  exact h.2.2 j v h2
theorem fl_LR.st1 {w : fl_V} (hw : fl_fm w) {ls' : Array Slot} {nL i : Nat} {L : fl_L} {v : Value} (hk : fl_nk L i = true) (h : lv_has ls' nL ((i, fl_cv w v) :: (fl_as w L 0).filter (fun q => !(q.1 == i) && !(q.1 + 1 == i && q.2.category == 2)))) : fl_LR w ls' nL (fl_set L i (some v)) := by
  refine ⟨h.1, h.2.1, fun j x hx => ?_⟩
  rw [fl_get_set] at hx
  by_cases e : j = i
  · rw [if_pos e] at hx
    cases hx
    subst e
    exact h.2.2 _ List.mem_cons_self
  · rw [if_neg e] at hx
    refine h.2.2 (j, fl_cv w x) (List.mem_cons_of_mem _ (List.mem_filter.mpr ⟨(fl_as_mem w L 0 _).mpr ⟨j, x, by rw [Nat.zero_add], hx⟩, ?_⟩))
    simp only [Bool.and_eq_true, Bool.not_eq_true', beq_eq_false_iff_ne, ne_eq, Bool.and_eq_false_iff]
    refine ⟨e, ?_⟩
    by_cases e2 : j + 1 = i
    · right
      subst e2
      rw [fl_cv_cat hw]
      intro hc
      have : fl_two (fl_get L j) = true := by rw [hx]; exact (fl_two_cat x).mpr hc
      simp [fl_nk, this] at hk
    · left; exact e2
theorem fl_LR.st2 {w : fl_V} (hw : fl_fm w) {ls' : Array Slot} {nL i : Nat} {L : fl_L} {v : Value} (hk : fl_nk L i = true) (h : lv_has ls' nL ((i, fl_cv w v) :: (fl_as w L 0).filter (fun q => !(q.1 == i) && (!(q.1 == i + 1) && !(q.1 + 1 == i && q.2.category == 2))))) : fl_LR w ls' nL (fl_set (fl_set L i (some v)) (i + 1) none) := by
  refine ⟨h.1, h.2.1, fun j x hx => ?_⟩
  rw [fl_get_set] at hx
  by_cases e1 : j = i + 1
  · rw [if_pos e1] at hx; cases hx
  rw [if_neg e1, fl_get_set] at hx
  by_cases e : j = i
  · rw [if_pos e] at hx
    cases hx
    subst e
    exact h.2.2 _ List.mem_cons_self
  · rw [if_neg e] at hx
    refine h.2.2 (j, fl_cv w x) (List.mem_cons_of_mem _ (List.mem_filter.mpr ⟨(fl_as_mem w L 0 _).mpr ⟨j, x, by rw [Nat.zero_add], hx⟩, ?_⟩))
    simp only [Bool.and_eq_true, Bool.not_eq_true', beq_eq_false_iff_ne, ne_eq, Bool.and_eq_false_iff]
    refine ⟨e, e1, ?_⟩
    by_cases e2 : j + 1 = i
    · right
      subst e2
      rw [fl_cv_cat hw]
      intro hc
      have : fl_two (fl_get L j) = true := by rw [hx]; exact (fl_two_cat x).mpr hc
      simp [fl_nk, this] at hk
    · left; exact e2
theorem fl_args_at (w : fl_V) (hw : fl_fm w) : ∀ (as : List Value) (i j : Nat) (v : Value), fl_get (fl_args as) j = some v → (i + j, fl_cv w v) ∈ lv_args i (as.map (fl_cv w))
  | [], i, j, v, h => by cases h
  | x :: as, i, j, v, h => by
    have hc := fl_cv_cat hw x
    show _ ∈ (i, fl_cv w x) :: lv_args _ _
    unfold fl_args at h
    by_cases h2 : x.category = 2
    · have h3 : fl_two (some x) = true := (fl_two_cat x).mpr h2
      rw [h3] at h
      rw [hc, if_pos h2]
      match j, h with
      | 0, h => cases h; exact List.mem_cons_self
      | 1, h => cases h
      | j + 2, h =>
        have := fl_args_at w hw as (i + 2) j v h
        rw [show i + 2 + j = i + (j + 2) by omega] at this
        exact List.mem_cons_of_mem _ this
    · have h3 : fl_two (some x) = false := by
        cases hz : fl_two (some x) with
        | false => rfl
        | true => exact absurd ((fl_two_cat x).mp hz) h2
      rw [h3] at h
      rw [hc, if_neg h2]
      match j, h with
      | 0, h => cases h; exact List.mem_cons_self
      | j + 1, h =>
        have := fl_args_at w hw as (i + 1) j v h
        rw [show i + 1 + j = i + (j + 1) by omega] at this
        exact List.mem_cons_of_mem _ this
theorem fl_LR.entry {w : fl_V} (hw : fl_fm w) (as : List Value) {n : Nat} {ls : Array Slot} (h : lv_has ls n (lv_args 0 (as.map (fl_cv w)))) : fl_LR w ls n (fl_args as) := by
  refine ⟨h.1, h.2.1, fun j v hv => ?_⟩
  have := fl_args_at w hw as 0 j v hv
  rw [Nat.zero_add] at this
  exact h.2.2 _ this
theorem fl_cat_eq {w : fl_V} (hw : fl_fm w) : ∀ r : List Value, ((r.map (fl_cv w)).map fun v => v.category).sum = fl_cat r
  | [] => rfl
  | v :: r => by
    rw [List.map_cons, List.map_cons, List.sum_cons, fl_cat_eq hw r, fl_cv_cat hw]
    rw [show fl_cat (v :: r) = (match fl_two (some v) with | true => fl_cat r + 2 | false => fl_cat r + 1) from rfl]
    by_cases h2 : v.category = 2
    · rw [(fl_two_cat v).mpr h2, h2]; exact Nat.add_comm _ _
    · have h3 : fl_two (some v) = false := by
        cases hz : fl_two (some v) with
        | false => rfl
        | true => exact absurd ((fl_two_cat v).mp hz) h2
      rw [h3]
      have : v.category = 1 := (lv_cat v).resolve_right h2
      rw [this]; exact Nat.add_comm _ _
theorem fl_pop_eq : ∀ (n : Nat) (acc st as r : List Value), fl_pop n acc st = some (as, r) → ∃ l, as = l ++ acc ∧ l.length = n ∧ st = l.reverse ++ r
  | 0, acc, st, as, r, h => by cases h; exact ⟨[], rfl, rfl, rfl⟩
  | n + 1, acc, [], as, r, h => by cases h
  | n + 1, acc, v :: st, as, r, h => by
    obtain ⟨l, h1, h2, h3⟩ := fl_pop_eq n (v :: acc) st as r h
    exact ⟨l ++ [v], by rw [h1, List.append_assoc]; rfl, by rw [List.length_append, h2]; rfl, by rw [List.reverse_append, h3]; rfl⟩
end
section
/-! METHODS by their numbers: name, code, locals, answer, handlers (printed by wip/whole/genmeth.py); what of their instructions is looked up in the tables -/
abbrev fl_M : Type := MethodName × ByteArray × Nat × Option FieldType × List (Nat × Nat × Nat × Nat)
def fl_ms : List (List (List (Option fl_M))) := [[[none, none, none, none, none, none, none, none], [none, none, some (⟨"FaultLists$Cells", "<init>", "(I)V"⟩, prog_3_method_1_code, 2, none, []), some (⟨"FaultLists$Pile", "<init>", "(I)V"⟩, prog_7_method_1_code, 2, none, []), some (⟨"FaultLists$Net", "<init>", "()V"⟩, prog_6_method_1_code, 1, none, []), some (⟨"FaultLists$Reader", "<init>", "()V"⟩, prog_8_method_1_code, 1, none, []), some (⟨"FaultLists$Side", "<init>", "()V"⟩, prog_11_method_1_code, 1, none, []), some (⟨"FaultLists$Bench", "<init>", "()V"⟩, prog_2_method_1_code, 1, none, [])], [some (⟨"FaultLists$Run", "<init>", "()V"⟩, prog_9_method_1_code, 1, none, []), some (⟨"FaultLists$Kin", "<init>", "()V"⟩, prog_4_method_1_code, 1, none, []), some (⟨"FaultLists$Moves", "<init>", "()V"⟩, prog_5_method_1_code, 1, none, []), some (⟨"FaultLists$Search", "<init>", "()V"⟩, prog_10_method_1_code, 1, none, []), some (⟨"FaultLists$Cells", "put", "(IJ)V"⟩, prog_3_method_4_code, 4, none, []), some (⟨"FaultLists$Net", "addLine", "(III)V"⟩, prog_6_method_5_code, 4, none, []), some (⟨"FaultLists$Net", "addInputs", "(I)V"⟩, prog_6_method_4_code, 3, none, []), some (⟨"FaultLists$Net", "addOutput", "(I)V"⟩, prog_6_method_7_code, 2, none, [])], [some (⟨"FaultLists$Cells", "intAt", "(I)I"⟩, prog_3_method_3_code, 2, (some .int), []), some (⟨"FaultLists$Side", "hold", "(II)V"⟩, prog_11_method_4_code, 3, none, []), some (⟨"FaultLists$Side", "start", "(LFaultLists$Net;)V"⟩, prog_11_method_3_code, 3, none, []), some (⟨"FaultLists$Bench", "start", "(LFaultLists$Net;)V"⟩, prog_2_method_3_code, 2, none, []), some (⟨"FaultLists$Run", "restart", "()V"⟩, prog_9_method_3_code, 1, none, []), some (⟨"FaultLists", "<init>", "()V"⟩, prog_1_method_1_code, 1, none, []), some (⟨"FaultListsModel", "<init>", "()V"⟩, prog_13_method_13_code, 1, none, []), some (⟨"FaultLists$Pile", "size", "()I"⟩, prog_7_method_2_code, 1, (some .int), [])], [some (⟨"FaultLists$Pile", "add", "(J)V"⟩, prog_7_method_5_code, 3, none, []), some (⟨"FaultLists", "sign", "(I)I"⟩, prog_1_method_2_code, 3, (some .int), []), some (⟨"FaultListsModel", "sign", "(I)I"⟩, prog_13_method_7_code, 3, (some .int), []), some (⟨"FaultLists$Pile", "cut", "(I)Z"⟩, prog_7_method_6_code, 2, (some .boolean), []), some (⟨"FaultLists", "end", "(I)Z"⟩, prog_1_method_3_code, 2, (some .boolean), []), some (⟨"FaultListsModel", "in", "(JJJ)Z"⟩, prog_13_method_2_code, 6, (some .boolean), []), some (⟨"FaultListsModel", "end", "(I)Z"⟩, prog_13_method_8_code, 2, (some .boolean), []), some (⟨"FaultLists$Net", "clear", "()V"⟩, prog_6_method_2_code, 1, none, [])], [some (⟨"FaultLists$Pile", "clear", "()V"⟩, prog_7_method_7_code, 1, none, []), some (⟨"FaultLists$Pile", "intAt", "(I)I"⟩, prog_7_method_4_code, 2, (some .int), []), some (⟨"FaultLists$Reader", "signOf", "(LFaultLists$Pile;)I"⟩, prog_8_method_3_code, 2, (some .int), []), some (⟨"FaultLists$Reader", "because", "(II)V"⟩, prog_8_method_13_code, 3, none, []), some (⟨"FaultLists$Reader", "refuse", "(ZII)V"⟩, prog_8_method_12_code, 4, none, []), some (⟨"FaultLists$Reader", "readInputs", "(LFaultLists$Pile;)V"⟩, prog_8_method_5_code, 3, none, []), some (⟨"java/lang/String", "isLatin1", "()Z"⟩, prog_23_method_154_code, 1, (some .boolean), []), some (⟨"java/lang/String", "coder", "()B"⟩, prog_23_method_152_code, 1, (some .byte), [])], [some (⟨"java/lang/String", "length", "()I"⟩, prog_23_method_54_code, 1, (some .int), []), some (⟨"java/lang/StringLatin1", "canEncode", "(I)Z"⟩, prog_24_method_4_code, 1, (some .boolean), []), some (⟨"java/lang/Math", "max", "(II)I"⟩, prog_21_method_65_code, 2, (some .int), []), some (⟨"java/lang/Math", "min", "(II)I"⟩, prog_21_method_69_code, 2, (some .int), []), some (⟨"java/lang/StringLatin1", "indexOfChar", "([BIII)I"⟩, prog_24_method_23_code, 6, (some .int), []), some (⟨"java/lang/StringLatin1", "indexOf", "([BIII)I"⟩, prog_24_method_22_code, 4, (some .int), []), some (⟨"java/lang/String", "indexOf", "(II)I"⟩, prog_23_method_80_code, 3, (some .int), []), some (⟨"java/lang/String", "indexOf", "(I)I"⟩, prog_23_method_79_code, 2, (some .int), [])], [some (⟨"FaultLists$Reader", "letterOf", "(LFaultLists$Pile;)I"⟩, prog_8_method_4_code, 3, (some .int), []), some (⟨"FaultLists$Net", "addPin", "(I)V"⟩, prog_6_method_6_code, 2, none, []), some (⟨"FaultLists$Reader", "readPin", "(LFaultLists$Pile;I)V"⟩, prog_8_method_7_code, 4, none, []), some (⟨"FaultLists$Reader", "readStart", "(LFaultLists$Pile;)I"⟩, prog_8_method_8_code, 3, (some .int), []), some (⟨"FaultLists$Reader", "readLine", "(LFaultLists$Pile;)V"⟩, prog_8_method_6_code, 6, none, []), some (⟨"FaultLists$Net", "isOutput", "(I)Z"⟩, prog_6_method_14_code, 3, (some .boolean), []), some (⟨"FaultLists$Reader", "readOutput", "(LFaultLists$Pile;)V"⟩, prog_8_method_10_code, 3, none, []), some (⟨"FaultLists$Reader", "readOutputs", "(LFaultLists$Pile;)V"⟩, prog_8_method_9_code, 3, none, [])]], [[some (⟨"FaultLists$Net", "isLine", "(I)Z"⟩, prog_6_method_12_code, 2, (some .boolean), []), some (⟨"FaultLists$Net", "isRegister", "(I)Z"⟩, prog_6_method_13_code, 2, (some .boolean), []), some (⟨"FaultLists$Net", "faults", "()I"⟩, prog_6_method_8_code, 1, (some .int), []), some (⟨"FaultLists$Reader", "askRegisters", "()I"⟩, prog_8_method_11_code, 3, (some .int), []), some (⟨"FaultLists$Reader", "read", "(LFaultLists$Pile;)I"⟩, prog_8_method_2_code, 3, (some .int), []), some (⟨"FaultLists$Cells", "copy", "(LFaultLists$Cells;)V"⟩, prog_3_method_6_code, 3, none, []), some (⟨"FaultLists$Net", "copy", "(LFaultLists$Net;)V"⟩, prog_6_method_3_code, 2, none, []), some (⟨"FaultLists", "net", "()I"⟩, prog_1_method_4_code, 2, (some .int), [])], [some (⟨"FaultListsModel", "reads", "()V"⟩, prog_13_method_9_code, 1, none, []), some (⟨"jdk/internal/util/Preconditions", "checkIndex", "(IILjava/util/function/BiFunction;)I"⟩, prog_30_method_11_code, 3, (some .int), []), some (⟨"java/lang/String", "checkIndex", "(II)V"⟩, prog_23_method_155_code, 2, none, []), some (⟨"java/lang/StringLatin1", "charAt", "([BI)C"⟩, prog_24_method_2_code, 2, (some .char), []), some (⟨"java/lang/String", "charAt", "(I)C"⟩, prog_23_method_56_code, 2, (some .char), []), some (⟨"FaultListsModel", "placeIn", "(Ljava/lang/String;I)I"⟩, prog_13_method_10_code, 3, (some .int), []), some (⟨"FaultListsModel", "seen", "(Ljava/lang/String;)I"⟩, prog_13_method_11_code, 2, (some .int), []), some (⟨"FaultListsModel", "flag", "(Z)I"⟩, prog_13_method_3_code, 1, (some .int), [])], [some (⟨"FaultListsModel", "takesOf", "(Ljava/lang/String;)I"⟩, prog_13_method_12_code, 3, (some .int), []), some (⟨"FaultListsModel", "causes", "(II)V"⟩, prog_13_method_25_code, 3, none, []), some (⟨"FaultListsModel", "fails", "(IIII)I"⟩, prog_13_method_26_code, 5, (some .int), []), some (⟨"FaultListsModel", "readsPin", "(II)I"⟩, prog_13_method_27_code, 4, (some .int), []), some (⟨"FaultListsModel", "readsLine", "()I"⟩, prog_13_method_28_code, 6, (some .int), []), some (⟨"FaultListsModel", "readsOutputs", "()I"⟩, prog_13_method_29_code, 4, (some .int), []), some (⟨"FaultListsModel", "readsNet", "()I"⟩, prog_13_method_30_code, 5, (some .int), []), some (⟨"FaultListsModel", "copies", "(IIII)V"⟩, prog_13_method_14_code, 6, none, [])], [some (⟨"FaultListsModel", "faults", "()I"⟩, prog_13_method_18_code, 1, (some .int), []), some (⟨"FaultListsModel", "net", "()I"⟩, prog_13_method_31_code, 2, (some .int), []), some (⟨"FaultLists", "cause", "(II)I"⟩, prog_1_method_5_code, 3, (some .int), []), some (⟨"FaultListsModel", "cause", "(II)I"⟩, prog_13_method_32_code, 3, (some .int), []), some (⟨"FaultLists$Net", "readersOf", "(I)I"⟩, prog_6_method_15_code, 4, (some .int), []), some (⟨"FaultLists", "line", "(II)I"⟩, prog_1_method_6_code, 4, (some .int), []), some (⟨"FaultListsLaw", "line", "(LFaultLists;II[J)I"⟩, method_3_code, 5, (some .int), [(0, 10, 13, 13)]), some (⟨"FaultListsModel", "lines", "()I"⟩, prog_13_method_15_code, 1, (some .int), [])], [some (⟨"FaultListsModel", "isLine", "(I)Z"⟩, prog_13_method_19_code, 2, (some .boolean), []), some (⟨"FaultListsModel", "isRegister", "(I)Z"⟩, prog_13_method_21_code, 2, (some .boolean), []), some (⟨"FaultListsModel", "isOutput", "(I)Z"⟩, prog_13_method_22_code, 3, (some .boolean), []), some (⟨"FaultListsModel", "readersOf", "(I)I"⟩, prog_13_method_23_code, 4, (some .int), []), some (⟨"FaultListsModel", "line", "(II)I"⟩, prog_13_method_33_code, 3, (some .int), []), some (⟨"FaultListsModel", "thrown", "()I"⟩, prog_13_method_1_code, 1, (some .int), []), some (⟨"FaultLists", "pin", "(I)I"⟩, prog_1_method_7_code, 2, (some .int), []), some (⟨"FaultListsLaw", "pin", "(LFaultLists;I[J)I"⟩, method_4_code, 4, (some .int), [(0, 9, 12, 13)])], [some (⟨"FaultListsModel", "pin", "(I)I"⟩, prog_13_method_34_code, 2, (some .int), []), some (⟨"FaultLists$Cells", "at", "(I)J"⟩, prog_3_method_2_code, 2, (some .long), []), some (⟨"FaultLists$Pile", "at", "(I)J"⟩, prog_7_method_3_code, 2, (some .long), []), some (⟨"FaultLists", "valueOfSign", "(J)I"⟩, prog_1_method_33_code, 2, (some .int), []), some (⟨"FaultLists", "badSign", "(II)I"⟩, prog_1_method_35_code, 5, (some .int), []), some (⟨"FaultLists", "patternAt", "(II)I"⟩, prog_1_method_37_code, 5, (some .int), []), some (⟨"FaultLists$Net", "allFaults", "()J"⟩, prog_6_method_9_code, 1, (some .long), []), some (⟨"FaultLists$Net", "pinFault", "(II)I"⟩, prog_6_method_10_code, 3, (some .int), [])], [some (⟨"FaultLists$Net", "turns", "(I)Z"⟩, prog_6_method_16_code, 1, (some .boolean), []), some (⟨"FaultLists$Side", "work", "(LFaultLists$Net;IJLFaultLists$Cells;LFaultLists$Cells;)V"⟩, prog_11_method_8_code, 32, none, []), some (⟨"FaultLists$Side", "stick", "(IJ)V"⟩, prog_11_method_9_code, 8, none, []), some (⟨"FaultLists$Side", "tick", "(LFaultLists$Net;IJ)V"⟩, prog_11_method_7_code, 8, none, []), some (⟨"FaultLists$Bench", "tick", "(LFaultLists$Net;IJ)V"⟩, prog_2_method_4_code, 5, none, []), some (⟨"FaultLists$Bench", "otherKnown", "(LFaultLists$Side;LFaultLists$Side;I)J"⟩, prog_2_method_5_code, 3, (some .long), []), some (⟨"FaultLists$Bench", "listAt", "(I)J"⟩, prog_2_method_6_code, 2, (some .long), []), some (⟨"FaultLists$Bench", "shown", "(LFaultLists$Net;)J"⟩, prog_2_method_9_code, 5, (some .long), [])], [some (⟨"FaultLists", "hasBit", "(JI)Z"⟩, prog_1_method_32_code, 3, (some .boolean), []), some (⟨"FaultLists$Run", "outputsShowing", "(I)J"⟩, prog_9_method_6_code, 6, (some .long), []), some (⟨"FaultLists$Run", "note", "(J)V"⟩, prog_9_method_5_code, 4, none, []), some (⟨"FaultLists$Side", "holdAs", "(LFaultLists$Side;J)V"⟩, prog_11_method_6_code, 5, none, []), some (⟨"FaultLists$Run", "tick", "(I)V"⟩, prog_9_method_4_code, 4, none, []), some (⟨"FaultLists", "tell", "(J)V"⟩, prog_1_method_34_code, 3, none, []), some (⟨"java/lang/Long", "bitCount", "(J)I"⟩, prog_20_method_50_code, 2, (some .int), []), some (⟨"FaultLists", "applyText", "(LFaultLists$Run;)I"⟩, prog_1_method_36_code, 8, (some .int), [])]], [[some (⟨"FaultLists", "applies", "()I"⟩, prog_1_method_8_code, 1, (some .int), []), some (⟨"FaultListsModel", "inputs", "()I"⟩, prog_13_method_16_code, 1, (some .int), []), some (⟨"FaultListsModel", "ticks", "()I"⟩, prog_13_method_17_code, 1, (some .int), []), some (⟨"FaultListsModel", "takesRun", "()V"⟩, prog_13_method_41_code, 2, none, []), some (⟨"FaultListsModel", "starts", "()V"⟩, prog_13_method_35_code, 2, none, []), some (⟨"FaultListsModel", "inputOf", "(II)I"⟩, prog_13_method_38_code, 2, (some .int), []), some (⟨"FaultListsModel", "pinned", "(II)I"⟩, prog_13_method_36_code, 4, (some .int), []), some (⟨"FaultListsModel", "gated", "(II)I"⟩, prog_13_method_37_code, 10, (some .int), [])], [some (⟨"FaultListsModel", "lays", "(II)V"⟩, prog_13_method_39_code, 5, none, []), some (⟨"FaultListsModel", "tick", "(II)V"⟩, prog_13_method_40_code, 4, none, []), some (⟨"FaultListsModel", "laysGood", "()V"⟩, prog_13_method_42_code, 3, none, []), some (⟨"FaultListsModel", "shows", "(I)I"⟩, prog_13_method_43_code, 6, (some .int), []), some (⟨"FaultListsModel", "runs", "(I)V"⟩, prog_13_method_46_code, 4, none, []), some (⟨"FaultListsModel", "runsAll", "()V"⟩, prog_13_method_47_code, 2, none, []), some (⟨"FaultListsModel", "detectedSet", "()J"⟩, prog_13_method_48_code, 4, (some .long), []), some (⟨"FaultListsModel", "enters", "(J)V"⟩, prog_13_method_6_code, 3, none, [])], [some (⟨"FaultListsModel", "bitsOf", "(J)I"⟩, prog_13_method_4_code, 4, (some .int), []), some (⟨"FaultListsModel", "appliesAll", "()I"⟩, prog_13_method_50_code, 7, (some .int), []), some (⟨"FaultListsModel", "applies", "()I"⟩, prog_13_method_51_code, 1, (some .int), []), some (⟨"FaultLists$Side", "copy", "(LFaultLists$Side;)V"⟩, prog_11_method_2_code, 2, none, []), some (⟨"FaultLists$Bench", "copy", "(LFaultLists$Bench;)V"⟩, prog_2_method_2_code, 2, none, []), some (⟨"FaultLists$Run", "copy", "(LFaultLists$Run;)V"⟩, prog_9_method_2_code, 2, none, []), some (⟨"FaultLists", "would", "()I"⟩, prog_1_method_9_code, 1, (some .int), []), some (⟨"FaultListsModel", "would", "()I"⟩, prog_13_method_52_code, 2, (some .int), [])], [some (⟨"FaultLists", "begins", "()I"⟩, prog_1_method_10_code, 2, (some .int), []), some (⟨"FaultListsModel", "begins", "()I"⟩, prog_13_method_53_code, 2, (some .int), []), some (⟨"FaultLists", "drops", "(I)I"⟩, prog_1_method_11_code, 2, (some .int), []), some (⟨"FaultListsModel", "droppedSet", "()J"⟩, prog_13_method_49_code, 4, (some .long), []), some (⟨"FaultListsModel", "drops", "(I)I"⟩, prog_13_method_54_code, 2, (some .int), []), some (⟨"FaultLists$Bench", "doubtsAt", "(I)J"⟩, prog_2_method_7_code, 2, (some .long), []), some (⟨"FaultLists$Side", "valueAt", "(II)I"⟩, prog_11_method_10_code, 3, (some .int), []), some (⟨"FaultLists", "value", "(I)I"⟩, prog_1_method_12_code, 2, (some .int), [])], [some (⟨"FaultListsModel", "otherAt", "(IZ)J"⟩, prog_13_method_55_code, 10, (some .long), []), some (⟨"FaultListsModel", "value", "(I)I"⟩, prog_13_method_56_code, 2, (some .int), []), some (⟨"FaultLists$Net", "isFault", "(I)Z"⟩, prog_6_method_11_code, 2, (some .boolean), []), some (⟨"FaultLists", "faulty", "(II)I"⟩, prog_1_method_13_code, 3, (some .int), []), some (⟨"FaultListsModel", "isFault", "(I)Z"⟩, prog_13_method_20_code, 2, (some .boolean), []), some (⟨"FaultListsModel", "faulty", "(II)I"⟩, prog_13_method_57_code, 3, (some .int), []), some (⟨"FaultLists$Bench", "heldOtherwise", "(I)J"⟩, prog_2_method_8_code, 2, (some .long), []), some (⟨"FaultLists$Side", "heldAt", "(II)I"⟩, prog_11_method_11_code, 3, (some .int), [])], [some (⟨"FaultLists", "holds", "(I)I"⟩, prog_1_method_14_code, 2, (some .int), []), some (⟨"FaultListsModel", "holds", "(I)I"⟩, prog_13_method_58_code, 5, (some .int), []), some (⟨"FaultLists", "detected", "()I"⟩, prog_1_method_15_code, 1, (some .int), []), some (⟨"FaultListsModel", "detected", "()I"⟩, prog_13_method_59_code, 1, (some .int), []), some (⟨"FaultLists", "when", "(I)I"⟩, prog_1_method_16_code, 2, (some .int), []), some (⟨"FaultListsModel", "when", "(I)I"⟩, prog_13_method_60_code, 2, (some .int), []), some (⟨"FaultLists", "sample", "(II)I"⟩, prog_1_method_17_code, 6, (some .int), []), some (⟨"FaultListsModel", "common", "(II)I"⟩, prog_13_method_61_code, 2, (some .int), [])], [some (⟨"FaultListsModel", "common", "(II)I"⟩, prog_13_method_61_code, 2, (some .int), []), some (⟨"FaultListsModel", "common", "(II)I"⟩, prog_13_method_61_code, 2, (some .int), []), some (⟨"FaultListsModel", "common", "(II)I"⟩, prog_13_method_61_code, 2, (some .int), []), some (⟨"FaultListsModel", "common", "(II)I"⟩, prog_13_method_61_code, 2, (some .int), []), some (⟨"FaultListsModel", "common", "(II)I"⟩, prog_13_method_61_code, 2, (some .int), []), some (⟨"FaultListsModel", "common", "(II)I"⟩, prog_13_method_61_code, 2, (some .int), []), some (⟨"FaultListsModel", "common", "(II)I"⟩, prog_13_method_61_code, 2, (some .int), []), some (⟨"FaultListsModel", "common", "(II)I"⟩, prog_13_method_61_code, 2, (some .int), [])], [some (⟨"FaultListsModel", "common", "(II)I"⟩, prog_13_method_61_code, 2, (some .int), []), some (⟨"FaultListsModel", "common", "(II)I"⟩, prog_13_method_61_code, 2, (some .int), []), some (⟨"FaultListsModel", "common", "(II)I"⟩, prog_13_method_61_code, 2, (some .int), []), some (⟨"FaultListsModel", "common", "(II)I"⟩, prog_13_method_61_code, 2, (some .int), []), some (⟨"FaultListsModel", "sample", "(II)I"⟩, prog_13_method_62_code, 6, (some .int), []), some (⟨"FaultLists$Side", "holdWhatGave", "(LFaultLists$Net;LFaultLists$Side;)V"⟩, prog_11_method_5_code, 4, none, []), some (⟨"java/lang/Integer", "bitCount", "(I)I"⟩, prog_19_method_49_code, 1, (some .int), []), some (⟨"FaultLists", "critical", "(I)I"⟩, prog_1_method_18_code, 9, (some .int), [])]], [[some (⟨"FaultListsModel", "valueWith", "(II)I"⟩, prog_13_method_63_code, 6, (some .int), []), some (⟨"FaultListsModel", "critical", "(I)I"⟩, prog_13_method_64_code, 6, (some .int), []), some (⟨"FaultLists$Kin", "join", "(II)V"⟩, prog_4_method_4_code, 6, none, []), some (⟨"FaultLists$Kin", "joinThroughGate", "(LFaultLists$Net;II)V"⟩, prog_4_method_3_code, 7, none, []), some (⟨"FaultLists$Kin", "gather", "(LFaultLists$Net;)V"⟩, prog_4_method_2_code, 6, none, []), some (⟨"FaultLists", "classes", "()I"⟩, prog_1_method_19_code, 7, (some .int), []), some (⟨"FaultListsModel", "joins", "(II)V"⟩, prog_13_method_65_code, 6, none, []), some (⟨"FaultListsModel", "joinsPin", "(II)V"⟩, prog_13_method_66_code, 6, none, [])], [some (⟨"FaultListsModel", "laysClasses", "()V"⟩, prog_13_method_67_code, 3, none, []), some (⟨"FaultListsModel", "classAt", "(I)J"⟩, prog_13_method_68_code, 5, (some .long), []), some (⟨"FaultListsModel", "classes", "()I"⟩, prog_13_method_69_code, 5, (some .int), []), some (⟨"FaultLists", "classOf", "(I)I"⟩, prog_1_method_20_code, 2, (some .int), []), some (⟨"FaultListsModel", "classOf", "(I)I"⟩, prog_13_method_70_code, 2, (some .int), []), some (⟨"FaultLists$Cells", "fill", "(J)V"⟩, prog_3_method_5_code, 4, none, []), some (⟨"FaultLists$Moves", "forget", "()V"⟩, prog_5_method_2_code, 1, none, []), some (⟨"FaultLists$Search", "forget", "()V"⟩, prog_10_method_2_code, 1, none, [])], [some (⟨"FaultLists$Moves", "startOf", "(LFaultLists$Net;)I"⟩, prog_5_method_3_code, 4, (some .int), []), some (⟨"FaultLists$Search", "reach", "(IIII)V"⟩, prog_10_method_5_code, 5, none, []), some (⟨"FaultLists$Moves", "holdState", "(LFaultLists$Net;I)V"⟩, prog_5_method_5_code, 5, none, []), some (⟨"FaultLists$Net", "patternOf", "(I)I"⟩, prog_6_method_17_code, 4, (some .int), []), some (⟨"FaultLists$Moves", "write", "(LFaultLists$Net;I)V"⟩, prog_5_method_6_code, 6, none, []), some (⟨"FaultLists$Moves", "entry", "(LFaultLists$Net;IIJ)I"⟩, prog_5_method_4_code, 7, (some .int), []), some (⟨"FaultLists$Moves", "shows", "(LFaultLists$Net;IILFaultLists$Moves;I)Z"⟩, prog_5_method_8_code, 11, (some .boolean), []), some (⟨"FaultLists$Moves", "stateBehind", "(LFaultLists$Net;II)I"⟩, prog_5_method_7_code, 9, (some .int), [])], [some (⟨"FaultLists$Search", "follow", "(LFaultLists$Net;III)Z"⟩, prog_10_method_4_code, 10, (some .boolean), []), some (⟨"FaultLists$Search", "trace", "(III)V"⟩, prog_10_method_6_code, 6, none, []), some (⟨"FaultLists$Search", "fewest", "(LFaultLists$Net;I)I"⟩, prog_10_method_3_code, 7, (some .int), []), some (⟨"FaultLists", "tests", "(I)I"⟩, prog_1_method_21_code, 4, (some .int), []), some (⟨"FaultListsModel", "heldCode", "()I"⟩, prog_13_method_71_code, 3, (some .int), []), some (⟨"FaultListsModel", "holdsAs", "(I)V"⟩, prog_13_method_72_code, 4, none, []), some (⟨"FaultListsModel", "pattern", "(I)I"⟩, prog_13_method_73_code, 4, (some .int), []), some (⟨"FaultListsModel", "laysRow", "(II)V"⟩, prog_13_method_76_code, 4, none, [])], [some (⟨"FaultListsModel", "isFound", "(I)Z"⟩, prog_13_method_74_code, 3, (some .boolean), []), some (⟨"FaultListsModel", "testsFor", "(I)I"⟩, prog_13_method_75_code, 6, (some .int), []), some (⟨"FaultListsModel", "tests", "(I)I"⟩, prog_13_method_77_code, 4, (some .int), []), some (⟨"FaultLists", "hidden", "()I"⟩, prog_1_method_22_code, 8, (some .int), []), some (⟨"FaultListsModel", "hidden", "()I"⟩, prog_13_method_78_code, 8, (some .int), []), some (⟨"FaultLists", "catchesAll", "(I)Z"⟩, prog_1_method_38_code, 6, (some .boolean), []), some (⟨"FaultLists", "needless", "()I"⟩, prog_1_method_23_code, 4, (some .int), []), some (⟨"FaultListsModel", "takesBut", "(I)V"⟩, prog_13_method_79_code, 3, none, [])], [some (⟨"FaultListsModel", "firstShown", "(I)I"⟩, prog_13_method_44_code, 3, (some .int), []), some (⟨"FaultListsModel", "allShown", "()J"⟩, prog_13_method_45_code, 4, (some .long), []), some (⟨"FaultListsModel", "areEnough", "(IJ)Z"⟩, prog_13_method_80_code, 4, (some .boolean), []), some (⟨"FaultListsModel", "needless", "()I"⟩, prog_13_method_81_code, 5, (some .int), []), some (⟨"FaultLists", "shorter", "()I"⟩, prog_1_method_24_code, 3, (some .int), []), some (⟨"FaultListsModel", "shorter", "()I"⟩, prog_13_method_82_code, 5, (some .int), []), some (⟨"FaultLists$Side", "otherThan", "(II)J"⟩, prog_11_method_12_code, 3, (some .long), []), some (⟨"FaultLists", "blameBySeen", "()I"⟩, prog_1_method_39_code, 10, (some .int), [])], [some (⟨"FaultLists", "blames", "()I"⟩, prog_1_method_25_code, 3, (some .int), []), some (⟨"FaultListsModel", "isAsSeen", "(II)Z"⟩, prog_13_method_83_code, 7, (some .boolean), []), some (⟨"FaultListsModel", "blames", "()I"⟩, prog_13_method_84_code, 5, (some .int), []), some (⟨"FaultLists$Side", "asAtOutputs", "(LFaultLists$Net;I)J"⟩, prog_11_method_13_code, 10, (some .long), []), some (⟨"FaultLists", "largestAlike", "(LFaultLists$Side;)I"⟩, prog_1_method_40_code, 8, (some .int), []), some (⟨"FaultLists", "parts", "()I"⟩, prog_1_method_26_code, 6, (some .int), []), some (⟨"FaultListsModel", "has", "(JI)Z"⟩, prog_13_method_5_code, 3, (some .boolean), []), some (⟨"FaultListsModel", "alikeBy", "(I)I"⟩, prog_13_method_85_code, 6, (some .int), [])], [some (⟨"FaultListsModel", "parts", "()I"⟩, prog_13_method_86_code, 5, (some .int), []), some (⟨"FaultLists", "drawn", "(II)I"⟩, prog_1_method_27_code, 12, (some .int), []), some (⟨"FaultListsModel", "draws", "(I)I"⟩, prog_13_method_87_code, 2, (some .int), []), some (⟨"FaultListsModel", "drawn", "(II)I"⟩, prog_13_method_88_code, 8, (some .int), []), some (⟨"FaultLists", "keep", "(I)Z"⟩, prog_1_method_28_code, 2, (some .boolean), []), some (⟨"FaultListsModel", "keep", "(I)Z"⟩, prog_13_method_89_code, 2, (some .boolean), []), some (⟨"FaultLists", "again", "(I)Z"⟩, prog_1_method_29_code, 2, (some .boolean), []), some (⟨"FaultListsModel", "again", "(I)Z"⟩, prog_13_method_90_code, 2, (some .boolean), [])]], [[some (⟨"FaultLists$Bench", "lengthOfLists", "(LFaultLists$Net;)I"⟩, prog_2_method_10_code, 4, (some .int), []), some (⟨"FaultLists", "count", "(I)I"⟩, prog_1_method_30_code, 2, (some .int), []), some (⟨"FaultListsModel", "registers", "()I"⟩, prog_13_method_24_code, 3, (some .int), []), some (⟨"FaultListsModel", "detectedMany", "()I"⟩, prog_13_method_92_code, 1, (some .int), []), some (⟨"FaultListsModel", "listsLong", "()I"⟩, prog_13_method_91_code, 3, (some .int), []), some (⟨"FaultListsModel", "count", "(I)I"⟩, prog_13_method_93_code, 2, (some .int), []), some (⟨"FaultLists", "row", "(I)J"⟩, prog_1_method_31_code, 2, (some .long), []), some (⟨"FaultListsLaw", "row", "(LFaultLists;I[J)I"⟩, method_5_code, 4, (some .int), [(0, 8, 11, 13)])], [some (⟨"FaultListsModel", "row", "(I)J"⟩, prog_13_method_94_code, 2, (some .long), []), some (⟨"FaultListsLaw", "law", "([I)Z"⟩, code, 8, (some .boolean), [])]]]
def fl_m (i : Nat) : fl_M := (fl_n3 fl_ms i).getD (⟨"", "", ""⟩, ByteArray.empty, 0, none, [])
def fl_y (i : Nat) : MethodName := (fl_m i).1
def fl_bytes (i : Nat) : ByteArray := (fl_m i).2.1
def fl_mx (i : Nat) : Nat := (fl_m i).2.2.1
def fl_ret (i : Nat) : Option FieldType := (fl_m i).2.2.2.1
def fl_hh (i : Nat) : List (Nat × Nat × Nat × Nat) := (fl_m i).2.2.2.2
/-- the words that all methods share -/
def fl_T : List Cond := lw_tbl.filter goodWord
theorem fl_T_of {w : Cond} (h : w ∈ tables_1) (hg : goodWord w = true) : w ∈ fl_T := List.mem_filter.mpr ⟨by unfold lw_tbl; exact List.mem_append_right _ h, hg⟩
def fl_t (p : Nat) (w : Cond) : Bool := decide (tables_1[p]? = some w) && goodWord w
theorem fl_t_mem {p : Nat} {w : Cond} (h : fl_t p w = true) : w ∈ fl_T := by
  simp only [fl_t, Bool.and_eq_true, decide_eq_true_eq] at h
  exact fl_T_of (List.mem_of_getElem? h.1) h.2
def fl_tm (w : Cond) : Bool := decide (w ∈ lw_tbl) && goodWord w
theorem fl_tm_mem {w : Cond} (h : fl_tm w = true) : w ∈ fl_T := by
  simp only [fl_tm, Bool.and_eq_true, decide_eq_true_eq] at h
  exact List.mem_filter.mpr ⟨h.1, h.2⟩
def fl_tx (w : Cond) : Bool := decide (w ∈ lw_tbl) && (goodWord w || (w.onTables && w.tabsOnly))
/-- the word of a method's code -/
def fl_cw (i : Nat) : Cond := match fl_hh i with
  | [] => .code (fl_y i) (fl_bytes i) (fl_mx i) (fl_ret i)
  | hh => .codeWith (fl_y i) (fl_bytes i) (fl_mx i) (fl_ret i) hh
def fl_wd (i : Nat) : List Cond := fl_cw i :: fl_T
/-- what is asked of a method that is called: c as in fl_call, b arguments -/
def fl_mok (i : Nat) : Bool := fl_tm (fl_cw i) && fl_tm (.initialized (fl_y i).cls) && decide ((fl_y i).cls ≠ "java/lang/invoke/MethodHandle" ∧ (fl_y i).cls ≠ "java/lang/invoke/VarHandle") && decide (fl_mx i ≤ 45) && plainFor (fl_y i)
def fl_np (i : Nat) : Option Nat := (parseMethodDescriptor (fl_y i).desc).map (fun d => d.parameters.length)
def fl_isref (t : Option FieldType) : Bool := match t with
  | some (.object _) => true
  | some (.array _) => true
  | _ => false
def fl_names : List String := ["java/lang/RuntimeException", "java/lang/Exception"]
abbrev fl_nsee : String := "java/util/NoSuchElementException"
/-- 'throw new NoSuchElementException()' stands at pc -/
def fl_thok (mid pc ik : Nat) : Bool := match decode (fl_bytes mid) (pc + 4) with
  | .ok (.invokespecial ic, 3) => decide (decode (fl_bytes mid) pc = .ok (.new ik, 3)) && decide (decode (fl_bytes mid) (pc + 3) = .ok (.dup, 1)) && decide (decode (fl_bytes mid) (pc + 7) = .ok (.athrow, 1)) && fl_tm (.classLink (fl_y mid).cls ik fl_nsee) && fl_tm (.initialized fl_nsee) && (vx_at0 (fl_y mid).cls ic fl_nsee fl_names).all (fun w => fl_tx w) && decide (6 ≤ mid) && decide (fl_hh mid = [])
  | _ => false
/-- a table of a switch -/
def fl_sws (pc : Nat) : Int → List Int → List (Int32 × Nat) → Bool
  | _, [], [] => true
  | v, o :: os, (x, t) :: l => decide (-2147483648 ≤ v) && decide (v < 2147483647) && decide (x = Int32.ofInt v) && decide ((pc : Int) + o = (t : Int)) && fl_sws pc (v + 1) os l
  | _, _, _ => false
def fl_lks (pc : Nat) : List (Int × Int) → List (Int32 × Nat) → Bool
  | [], [] => true
  | (v, o) :: os, (x, t) :: l => decide (x.toInt = v) && decide ((pc : Int) + o = (t : Int)) && fl_lks pc os l
  | _, _ => false
def fl_ok (mid pc : Nat) (e : fl_E) : Bool := match e with
  | (ins, len, a, b, c, d, p, x, q, sw, _) => decide (decode (fl_bytes mid) pc = .ok (ins, len)) && (match ins with
    | .iconst n => decide (len = 1) && decide (Int32.ofInt n = x)
    | .bipush n => decide (len = 2) && decide ((Int8.ofInt n).toInt32 = x)
    | .sipush n => decide (len = 3) && decide ((Int16.ofInt n).toInt32 = x)
    | .lconst n => decide (len = 1) && decide (Int64.ofNat (n : Nat) = q)
    | .ldc i => decide (len = 2) && (match c with
      | 0 => fl_t p (.constant (fl_y mid).cls i x)
      | 1 => decide (1048576 ≤ a) && decide (a < 1048583) && fl_strs.any (fun z => decide (z.1 = (fl_y mid).cls) && decide (z.2.1 = i) && decide (z.2.2.2 = a - 1048576))
      | _ => false)
    | .ldc_w i => decide (len = 3) && fl_t p (.constant (fl_y mid).cls i x)
    | .ldc2_w i => decide (len = 3) && fl_t p (.constantLong (fl_y mid).cls i q)
    | .iload i => decide (len = 2) && decide (i = a)
    | .lload i => decide (len = 2) && decide (i = a)
    | .aload i => decide (len = 2) && decide (i = a)
    | .iload_n k => decide (len = 1) && decide ((k : Nat) = a)
    | .lload_n k => decide (len = 1) && decide ((k : Nat) = a)
    | .aload_n k => decide (len = 1) && decide ((k : Nat) = a)
    | .istore i => decide (len = 2) && decide (i = a) && decide (a < fl_mx mid)
    | .lstore i => decide (len = 2) && decide (i = a) && decide (a + 1 < fl_mx mid)
    | .astore i => decide (len = 2) && decide (i = a) && decide (a < fl_mx mid)
    | .istore_n k => decide (len = 1) && decide ((k : Nat) = a) && decide (a < fl_mx mid)
    | .lstore_n k => decide (len = 1) && decide ((k : Nat) = a) && decide (a + 1 < fl_mx mid)
    | .astore_n k => decide (len = 1) && decide ((k : Nat) = a) && decide (a < fl_mx mid)
    | .iinc i n => decide (len = 3) && decide (i = a) && decide (Int32.ofInt n = x) && decide (a < fl_mx mid)
    | .ifCond _ off => decide (len = 3) && decide ((pc : Int) + off = (a : Int))
    | .if_icmp _ off => decide (len = 3) && decide ((pc : Int) + off = (a : Int))
    | .goto off => decide (len = 3) && decide ((pc : Int) + off = (a : Int))
    | .tableswitch df lo hi offs => decide ((pc : Int) + df = (a : Int)) && decide (hi = lo + offs.size - 1) && decide (0 < offs.size) && fl_sws pc lo offs.toList sw
    | .lookupswitch df ps => decide ((pc : Int) + df = (a : Int)) && (ps.toList.zip (ps.toList.drop 1)).all (fun (a, next) => a.1 < next.1) && fl_lks pc ps.toList sw
    | .getfield i => decide (len = 3) && (match c with
      | 7 => fl_t p (.fieldLink (fl_y mid).cls i "java/lang/String" "value" "[B")
      | 8 => fl_t p (.fieldLink (fl_y mid).cls i "java/lang/String" "coder" "B")
      | _ => decide (a < 12) && decide (b < (fl_cl0 a).2.2) && decide ((fl_ft a)[b]? = some c) && fl_t p (.fieldLink (fl_y mid).cls i ((fl_cl0 a).2.1 b).1 ((fl_cl0 a).2.1 b).2.1 ((fl_cl0 a).2.1 b).2.2.1))
    | .putfield i => decide (len = 3) && decide (a < 12) && decide (b < (fl_cl0 a).2.2) && decide ((fl_ft a)[b]? = some c) && fl_t p (.fieldLink (fl_y mid).cls i ((fl_cl0 a).2.1 b).1 ((fl_cl0 a).2.1 b).2.1 ((fl_cl0 a).2.1 b).2.2.1) && (match ((fl_cl0 a).2.1 b).2.2.2 with
      | true => decide ((fl_y mid).name = "<init>") && decide (((fl_cl0 a).2.1 b).1 = (fl_y mid).cls)
      | false => true) && (match c with
      | 0 => decide (parseFieldDescriptor ((fl_cl0 a).2.1 b).2.2.1 = some .int)
      | 1 => decide (parseFieldDescriptor ((fl_cl0 a).2.1 b).2.2.1 = some .long)
      | 3 => decide (parseFieldDescriptor ((fl_cl0 a).2.1 b).2.2.1 = some .boolean)
      | 2 => fl_isref (parseFieldDescriptor ((fl_cl0 a).2.1 b).2.2.1)
      | _ => false)
    | .getstatic i => decide (len = 3) && (match c with
      | 0 => decide (x = 1) && fl_t p (.fieldLink (fl_y mid).cls i "java/lang/String" "COMPACT_STRINGS" "Z")
      | 1 => fl_t p (.fieldLink (fl_y mid).cls i "jdk/internal/util/Preconditions" "SIOOBE_FORMATTER" "Ljava/util/function/BiFunction;")
      | _ => false)
    | .iaload => decide (len = 1) && (decide (a = 2) || decide (a = 6))
    | .baload => decide (len = 1) && (decide (a = 4) || decide (a = 5))
    | .arraylength => decide (len = 1) && decide (2 ≤ a) && decide (a < 7)
    | .new i => decide (len = 3) && (match c with
      | 0 => decide (a < 12) && decide (b = (fl_cl0 a).2.2) && fl_t p (.classLink (fl_y mid).cls i (fl_cl0 a).1) && fl_tm (.instantiable (fl_cl0 a).1 b) && fl_tm (.initialized (fl_cl0 a).1)
      | 1 => fl_thok mid pc i
      | _ => true)
    | .newarray t => decide (len = 2) && fl_tm (.arrayClass (newarray.typeOf t)) && (match t with
      | .int => decide (a = 2)
      | .long => decide (a = 3)
      | .boolean => decide (a = 4)
      | _ => false)
    | .invokestatic i => decide (len = 3) && (decide (a = 9999) || (decide (a < mid) && fl_mok a && decide (fl_np a = some b) && decide (d / 16 ≤ fl_mx a) && fl_tm (.static (fl_y a)) && decide (sw = []) && (match c with
      | 0 => fl_t p (.methodLink (fl_y mid).cls i (fl_y a))
      | 10 => decide (fl_hh a = []) && fl_nest.any (fun z => decide (z.1 = (fl_y mid).cls) && decide (z.2.1 = i) && decide (z.2.2.1 = fl_y a))
      | _ => false)))
    | .invokevirtual i => decide (len = 3) && (decide (a = 9999) || (decide (a < mid) && fl_mok a && decide (fl_np a = some (b - 1)) && decide (d / 16 ≤ fl_mx a) && decide (0 < b) && fl_tm (.instanceMethod (fl_y a)) && fl_tm (.selects (fl_y a).cls (fl_y a) (fl_y a)) && fl_t p (.methodLink (fl_y mid).cls i (fl_y a)) && decide (fl_hh a = []) && (match c with
      | 1 => decide (d % 16 < 12) && decide ((fl_cl0 (d % 16)).1 = (fl_y a).cls)
      | 3 => decide ((fl_y a).cls = "java/lang/String")
      | _ => false) && (match sw with
      | [] => true
      | (_, t) :: l => decide (l = []) && (match fl_hh mid, decode (fl_bytes mid) ((fl_hh mid).getD 0 (0, 0, 0, 0)).2.2.1 with
        | [(s0, e0, h0, ct)], .ok (.astore j, n) => decide (s0 ≤ pc) && decide (pc < e0) && decide (h0 + 2 = t) && decide (n = 2) && decide (j < fl_mx mid) && fl_tm (.classLink (fl_y mid).cls ct fl_nsee) && fl_tx (.castable fl_nsee fl_nsee) && decide (ct ≠ 0)
        | [(s0, e0, h0, ct)], .ok (.astore_n j, n) => decide (s0 ≤ pc) && decide (pc < e0) && decide (h0 + 1 = t) && decide (n = 1) && decide ((j : Nat) < fl_mx mid) && fl_tm (.classLink (fl_y mid).cls ct fl_nsee) && fl_tx (.castable fl_nsee fl_nsee) && decide (ct ≠ 0)
        | _, _ => false))))
    | .invokespecial i => decide (len = 3) && (match a with
      | 0 => fl_t p (.methodLink (fl_y mid).cls i objectInit) && fl_tm (.instanceMethod objectInit) && fl_tm (.code objectInit ⟨#[0xb1]⟩ 1 none) && decide (1 ≤ mid)
      | _ => decide (a < mid) && fl_mok a && decide (fl_np a = some (b - 1)) && decide (d / 16 ≤ fl_mx a) && decide (0 < b) && fl_tm (.instanceMethod (fl_y a)) && decide ((fl_y a).name = "<init>") && decide (fl_ret a = none) && decide (fl_hh a = []) && decide (sw = []) && (match c with
        | 2 => fl_t p (.methodLink (fl_y mid).cls i (fl_y a))
        | 12 => fl_nest.any (fun z => decide (z.1 = (fl_y mid).cls) && decide (z.2.1 = i) && decide (z.2.2.1 = fl_y a))
        | _ => false))
    | .ireturn => decide (len = 1) && (match c with
      | 0 => decide (fl_ret mid = some .int)
      | 3 => decide (fl_ret mid = some .boolean)
      | 4 => decide (fl_ret mid = some .char)
      | 5 => decide (fl_ret mid = some .byte)
      | _ => false)
    | .lreturn => decide (len = 1) && decide (fl_ret mid = some .long)
    | .return_ => decide (len = 1) && decide (fl_ret mid = none)
    | _ => decide (len = 1))
/-- all entries of a method -/
def fl_okm (mid : Nat) : Nat → List (Option fl_E) → Bool
  | _, [] => true
  | pc, none :: l => fl_okm mid (pc + 1) l
  | pc, some e :: l => fl_ok mid pc e && fl_okm mid (pc + 1) l
def fl_ok2 (mid : Nat) : Nat → List (List (Option fl_E)) → Bool
  | _, [] => true
  | k, l :: r => decide (l.length ≤ 8) && fl_okm mid (8 * k) l && fl_ok2 mid (k + 1) r
def fl_ok3 (mid : Nat) : Nat → List (List (List (Option fl_E))) → Bool
  | _, [] => true
  | k, l :: r => decide (l.length ≤ 8) && fl_ok2 mid (8 * k) l && fl_ok3 mid (k + 1) r
theorem fl_okm_at {mid : Nat} : ∀ (l : List (Option fl_E)) (pc i : Nat) (e : fl_E), fl_okm mid pc l = true → fl_nth l none i = some e → i < l.length ∧ fl_ok mid (pc + i) e = true
  | [], _, i, e, _, h => by cases i <;> cases h
  | none :: l, pc, 0, e, _, h => by cases h
  | none :: l, pc, i + 1, e, hk, h => by
    obtain ⟨h1, h2⟩ := fl_okm_at l (pc + 1) i e hk h
    exact ⟨Nat.succ_lt_succ h1, by rw [show pc + (i + 1) = pc + 1 + i by omega]; exact h2⟩
  | some e' :: l, pc, 0, e, hk, h => by
    cases h
    simp only [fl_okm, Bool.and_eq_true] at hk
    exact ⟨Nat.succ_pos _, hk.1⟩
  | some e' :: l, pc, i + 1, e, hk, h => by
    simp only [fl_okm, Bool.and_eq_true] at hk
    obtain ⟨h1, h2⟩ := fl_okm_at l (pc + 1) i e hk.2 h
    exact ⟨Nat.succ_lt_succ h1, by rw [show pc + (i + 1) = pc + 1 + i by omega]; exact h2⟩
theorem fl_ok2_at {mid : Nat} : ∀ (l : List (List (Option fl_E))) (k i j : Nat) (e : fl_E), fl_ok2 mid k l = true → fl_nth (fl_nth l [] i) none j = some e → i < l.length ∧ j < 8 ∧ fl_ok mid (8 * (k + i) + j) e = true
  | [], _, i, j, e, _, h => by cases i <;> cases j <;> cases h
  | l :: r, k, 0, j, e, hk, h => by
    simp only [fl_ok2, Bool.and_eq_true, decide_eq_true_eq] at hk
    obtain ⟨h1, h2⟩ := fl_okm_at l (8 * k) j e hk.1.2 h
    exact ⟨Nat.succ_pos _, Nat.lt_of_lt_of_le h1 hk.1.1, by rw [Nat.add_zero]; exact h2⟩
  | l :: r, k, i + 1, j, e, hk, h => by
    simp only [fl_ok2, Bool.and_eq_true, decide_eq_true_eq] at hk
    obtain ⟨h1, h2, h3⟩ := fl_ok2_at r (k + 1) i j e hk.2 h
    exact ⟨Nat.succ_lt_succ h1, h2, by rw [show k + (i + 1) = k + 1 + i by omega]; exact h3⟩
theorem fl_ok3_at {mid : Nat} : ∀ (l : List (List (List (Option fl_E)))) (k a i j : Nat) (e : fl_E), fl_ok3 mid k l = true → fl_nth (fl_nth (fl_nth l [] a) [] i) none j = some e → fl_ok mid (8 * (8 * (k + a) + i) + j) e = true
  | [], _, a, i, j, e, _, h => by cases a <;> cases i <;> cases j <;> cases h
  | l :: r, k, 0, i, j, e, hk, h => by
    simp only [fl_ok3, Bool.and_eq_true, decide_eq_true_eq] at hk
    exact (fl_ok2_at l (8 * k) i j e hk.1.2 h).2.2
  | l :: r, k, a + 1, i, j, e, hk, h => by
    simp only [fl_ok3, Bool.and_eq_true, decide_eq_true_eq] at hk
    have := fl_ok3_at r (k + 1) a i j e hk.2 h
    rw [show k + (a + 1) = k + 1 + a by omega]; exact this
theorem fl_ok_n3 {mid : Nat} {l : List (List (List (Option fl_E)))} (h : fl_ok3 mid 0 l = true) {pc : Nat} {e : fl_E} (he : fl_n3 l pc = some e) : fl_ok mid pc e = true := by
  have := fl_ok3_at l 0 (pc / 64) (pc / 8 % 8) (pc % 8) e h he
  rw [show 8 * (8 * (0 + pc / 64) + pc / 8 % 8) + pc % 8 = pc by omega] at this
  exact this
end
section
/-! ONE STEP of the abstract machine is a step of the machine: all instructions but calls (printed by wip/whole/gensteps.py) -/
theorem fl_phi_nx {nx : Nat → fl_L → List Value → fl_H → Option fl_O} {cl : Nat → List Value → fl_H → Option fl_O} {pc : Nat} {L : fl_L} {st : List Value} {h : fl_H} {o : fl_O} (q : fl_phi nx cl (fl_nx pc L st h) = some o) : nx pc L st h = some o := q
theorem fl_phi_ng {nx : Nat → fl_L → List Value → fl_H → Option fl_O} {cl : Nat → List Value → fl_H → Option fl_O} {g : Bool} {pc : Nat} {L : fl_L} {st : List Value} {h : fl_H} {o : fl_O} (q : fl_phi nx cl (fl_ng g pc L st h) = some o) : g = true ∧ nx pc L st h = some o := by
  cases g
  · cases q
  · exact ⟨rfl, q⟩
theorem fl_phi_dn {nx : Nat → fl_L → List Value → fl_H → Option fl_O} {cl : Nat → List Value → fl_H → Option fl_O} {g : Bool} {r : Option (Option Value)} {h : fl_H} {o : fl_O} (q : fl_phi nx cl (fl_dn g r h) = some o) : g = true ∧ (r, h) = o := by
  cases g
  · cases q
  · exact ⟨rfl, Option.some.inj q⟩
theorem fl_phi_br {nx : Nat → fl_L → List Value → fl_H → Option fl_O} {cl : Nat → List Value → fl_H → Option fl_O} {b : Bool} {t f : Nat} {L : fl_L} {st : List Value} {h : fl_H} {o : fl_O} (q : fl_phi nx cl (fl_br b t f L st h) = some o) : (b = true → nx t L st h = some o) ∧ (b = false → nx f L st h = some o) := by
  cases b
  · exact ⟨(fun e => nomatch e), fun _ => q⟩
  · exact ⟨fun _ => q, (fun e => nomatch e)⟩
theorem fl_ii_inv {st : List Value} {k : Int32 → Int32 → List Value → Option (Bool × fl_A)} {z : Option (Bool × fl_A) → Prop} (hz : ¬ z none) (q : z (fl_ii st k)) : ∃ (x y : Int32) (r : List Value), st = .int y :: .int x :: r ∧ z (k x y r) := by
  unfold fl_ii at q
  split at q
  · exact ⟨_, _, _, rfl, q⟩
  · exact absurd q hz
theorem fl_ll_inv {st : List Value} {k : Int64 → Int64 → List Value → Option (Bool × fl_A)} {z : Option (Bool × fl_A) → Prop} (hz : ¬ z none) (q : z (fl_ll st k)) : ∃ (x y : Int64) (r : List Value), st = .long y :: .long x :: r ∧ z (k x y r) := by
  unfold fl_ll at q
  split at q
  · exact ⟨_, _, _, rfl, q⟩
  · exact absurd q hz
theorem fl_li_inv {st : List Value} {k : Int64 → Int32 → List Value → Option (Bool × fl_A)} {z : Option (Bool × fl_A) → Prop} (hz : ¬ z none) (q : z (fl_li st k)) : ∃ (x : Int64) (y : Int32) (r : List Value), st = .int y :: .long x :: r ∧ z (k x y r) := by
  unfold fl_li at q
  split at q
  · exact ⟨_, _, _, rfl, q⟩
  · exact absurd q hz
theorem fl_i1_inv {st : List Value} {k : Int32 → List Value → Option (Bool × fl_A)} {z : Option (Bool × fl_A) → Prop} (hz : ¬ z none) (q : z (fl_i1 st k)) : ∃ (x : Int32) (r : List Value), st = .int x :: r ∧ z (k x r) := by
  unfold fl_i1 at q
  split at q
  · exact ⟨_, _, rfl, q⟩
  · exact absurd q hz
theorem fl_l1_inv {st : List Value} {k : Int64 → List Value → Option (Bool × fl_A)} {z : Option (Bool × fl_A) → Prop} (hz : ¬ z none) (q : z (fl_l1 st k)) : ∃ (x : Int64) (r : List Value), st = .long x :: r ∧ z (k x r) := by
  unfold fl_l1 at q
  split at q
  · exact ⟨_, _, rfl, q⟩
  · exact absurd q hz
theorem fl_r1_inv {st : List Value} {k : Nat → List Value → Option (Bool × fl_A)} {z : Option (Bool × fl_A) → Prop} (hz : ¬ z none) (q : z (fl_r1 st k)) : ∃ (x : Nat) (r : List Value), st = .ref x :: r ∧ z (k x r) := by
  unfold fl_r1 at q
  split at q
  · exact ⟨_, _, rfl, q⟩
  · exact absurd q hz
theorem fl_ri_inv {st : List Value} {k : Nat → Int32 → List Value → Option (Bool × fl_A)} {z : Option (Bool × fl_A) → Prop} (hz : ¬ z none) (q : z (fl_ri st k)) : ∃ (x : Nat) (i : Int32) (r : List Value), st = .int i :: .ref x :: r ∧ z (k x i r) := by
  unfold fl_ri at q
  split at q
  · exact ⟨_, _, _, rfl, q⟩
  · exact absurd q hz
theorem fl_rii_inv {st : List Value} {k : Nat → Int32 → Int32 → List Value → Option (Bool × fl_A)} {z : Option (Bool × fl_A) → Prop} (hz : ¬ z none) (q : z (fl_rii st k)) : ∃ (x : Nat) (i v : Int32) (r : List Value), st = .int v :: .int i :: .ref x :: r ∧ z (k x i v r) := by
  unfold fl_rii at q
  split at q
  · exact ⟨_, _, _, _, rfl, q⟩
  · exact absurd q hz
theorem fl_ril_inv {st : List Value} {k : Nat → Int32 → Int64 → List Value → Option (Bool × fl_A)} {z : Option (Bool × fl_A) → Prop} (hz : ¬ z none) (q : z (fl_ril st k)) : ∃ (x : Nat) (i : Int32) (v : Int64) (r : List Value), st = .long v :: .int i :: .ref x :: r ∧ z (k x i v r) := by
  unfold fl_ril at q
  split at q
  · exact ⟨_, _, _, _, rfl, q⟩
  · exact absurd q hz
theorem fl_rl_inv {st : List Value} {k : Nat → Int64 → List Value → Option (Bool × fl_A)} {z : Option (Bool × fl_A) → Prop} (hz : ¬ z none) (q : z (fl_rl st k)) : ∃ (x : Nat) (v : Int64) (r : List Value), st = .long v :: .ref x :: r ∧ z (k x v r) := by
  unfold fl_rl at q
  split at q
  · exact ⟨_, _, _, rfl, q⟩
  · exact absurd q hz
theorem fl_rr_inv {st : List Value} {k : Nat → Nat → List Value → Option (Bool × fl_A)} {z : Option (Bool × fl_A) → Prop} (hz : ¬ z none) (q : z (fl_rr st k)) : ∃ (x v : Nat) (r : List Value), st = .ref v :: .ref x :: r ∧ z (k x v r) := by
  unfold fl_rr at q
  split at q
  · exact ⟨_, _, _, rfl, q⟩
  · exact absurd q hz
theorem fl_iv_inv {L : fl_L} {a : Nat} {k : Int32 → Option (Bool × fl_A)} {z : Option (Bool × fl_A) → Prop} (hz : ¬ z none) (q : z (fl_iv L a k)) : ∃ v : Int32, fl_get L a = some (.int v) ∧ z (k v) := by
  unfold fl_iv at q
  split at q
  · rename_i v e; exact ⟨v, e, q⟩
  · exact absurd q hz
theorem fl_lv_inv {L : fl_L} {a : Nat} {k : Int64 → Option (Bool × fl_A)} {z : Option (Bool × fl_A) → Prop} (hz : ¬ z none) (q : z (fl_lv L a k)) : ∃ v : Int64, fl_get L a = some (.long v) ∧ z (k v) := by
  unfold fl_lv at q
  split at q
  · rename_i v e; exact ⟨v, e, q⟩
  · exact absurd q hz
theorem fl_rv_inv {L : fl_L} {a : Nat} {k : Nat → Option (Bool × fl_A)} {z : Option (Bool × fl_A) → Prop} (hz : ¬ z none) (q : z (fl_rv L a k)) : ∃ v : Nat, fl_get L a = some (.ref v) ∧ z (k v) := by
  unfold fl_rv at q
  split at q
  · rename_i v e; exact ⟨v, e, q⟩
  · exact absurd q hz
theorem fl_in_vp {i : Int32} {n : Nat} (h : fl_in i n = true) : vp_in i n := by
  simp only [fl_in, Bool.not_eq_true', Bool.or_eq_false_iff, decide_eq_false_iff_not] at h
  exact fun z => z.elim h.1 h.2
/-- what holds in a frame of method mid -/
def fl_Cx (l : Launch) (D : va_G) (G : ClassId × ClassId × ClassId) (w : fl_V) (Ls : Nat) (xs : Nat → Int32) (mid : Nat) (p : Program) (s : State) (m : MethodId) (args : Array Value) (meth : Method) (c : Code) : Prop :=
  p.tables.exec = Jvm.exec ∧ c.code = fl_bytes mid ∧ meth.sig.returnType = fl_ret mid ∧ c.maxLocals = fl_mx mid ∧ s.vm.findClass (fl_y mid).cls = some m.cls ∧ (∀ x ∈ fl_T, x.before args s = true) ∧ meth.locks = false ∧ ((fl_y mid).name = "<init>" → meth.name = "<init>") ∧ (fl_hh mid ≠ [] → c.exceptionTable.toList = tableOf (fl_hh mid)) ∧ l.stackTraces = false ∧ fl_EX D G w Ls xs s s.heap
/-- from here the machine comes to Q -/
def fl_Wd (l : Launch) (D : va_G) (G : ClassId × ClassId × ClassId) (w : fl_V) (Ls : Nat) (xs : Nat → Int32) (p : Program) (e : Env) (R : Room) (s : State) (m : MethodId) (args : Array Value) (below : List Frame) (meth : Method) (c : Code) (Q : State → Prop) (k0 s0 mid pc : Nat) (L : fl_L) (st : List Value) (h : fl_H) : Prop :=
  ∀ (H : Heap) (locs : List Loc) (cells slots : Nat) (ls : Array Slot), fl_R D G w Ls xs h H → va_S (fl_Af w) s.heap H locs → (h.1.2.2.2 = true → s.heap.size = w.1 + k0) → cells + k0 = h.1.2.1 → slots + s0 = h.1.2.2.1 → fl_LR w ls (fl_mx mid) L → W p l e R s m args below meth c H locs cells slots Q (F0 m pc ls (st.map (fl_cv w)))
/-- an answer that fits its method's type -/
def fl_rok (mid : Nat) (v : Option Value) : Instr → Prop
  | .ireturn => ∃ x ty, v = some (.int x) ∧ fl_ret mid = some ty ∧ narrow ty (.int x) = .int x
  | .lreturn => ∃ x, v = some (.long x) ∧ fl_ret mid = some .long
  | .return_ => v = none ∧ fl_ret mid = none
  | _ => False
theorem fl_fit_ok {c : Nat} {x : Int32} (h : fl_fit c x = true) : (c = 0) ∨ (c = 3 ∧ narrow .boolean (.int x) = .int x) ∨ (c = 4 ∧ narrow .char (.int x) = .int x) ∨ (c = 5 ∧ narrow .byte (.int x) = .int x) := by
  unfold fl_fit at h
  split at h
  · exact Or.inl rfl
  · right; left
    simp only [fl_b01, Bool.or_eq_true, decide_eq_true_eq] at h
    rcases h with rfl | rfl
    · exact ⟨rfl, rfl⟩
    · exact ⟨rfl, rfl⟩
  · right; right; left
    refine ⟨rfl, ?_⟩
    have e : (x.toUInt32 % 65536).toInt32 = x := of_decide_eq_true h
    rw [← e]
    exact pk_nc x
  · right; right; right
    refine ⟨rfl, ?_⟩
    have e : x.toInt8.toInt32 = x := of_decide_eq_true h
    show Value.int x.toInt8.toInt32 = _
    rw [e]
  · cases h
/-- the classes -/
theorem fl_cls : ∀ a, a < 12 → vwCl[a]? = some (fl_cl0 a) ∧ (∃ ty : Nat → FieldType, ∀ k, k < (fl_cl0 a).2.2 → parseFieldDescriptor ((fl_cl0 a).2.1 k).2.2.1 = some (ty k)) ∧ (∀ x, x < (fl_cl0 a).2.2 → ∀ y, y < (fl_cl0 a).2.2 → x ≠ y → ((fl_cl0 a).2.1 x).2.1 ≠ ((fl_cl0 a).2.1 y).2.1) ∧ (∀ x ∈ u_ws (fl_cl0 a).1 (fl_cl0 a).2.1 (fl_cl0 a).2.2, x ∈ fl_T) ∧ (fl_ft a).length = (fl_cl0 a).2.2
  | 0, _ => ⟨rfl, ⟨tyX0, tyX0_ok⟩, nmX0, fun x hx => (fun (z : ∀ x ∈ wsX00, x ∈ tables_1 ∧ goodWord x = true) => fl_T_of (z x hx).1 (z x hx).2) (by decide +kernel), rfl⟩
  | 1, _ => ⟨rfl, ⟨tyX1, tyX1_ok⟩, nmX1, fun x hx => (fun (z : ∀ x ∈ wsX10, x ∈ tables_1 ∧ goodWord x = true) => fl_T_of (z x hx).1 (z x hx).2) (by decide +kernel), rfl⟩
  | 2, _ => ⟨rfl, ⟨tyX2, tyX2_ok⟩, nmX2, fun x hx => (fun (z : ∀ x ∈ wsX20, x ∈ tables_1 ∧ goodWord x = true) => fl_T_of (z x hx).1 (z x hx).2) (by decide +kernel), rfl⟩
  | 3, _ => ⟨rfl, ⟨tyX3, tyX3_ok⟩, nmX3, fun x hx => (fun (z : ∀ x ∈ wsX30, x ∈ tables_1 ∧ goodWord x = true) => fl_T_of (z x hx).1 (z x hx).2) (by decide +kernel), rfl⟩
  | 4, _ => ⟨rfl, ⟨tyX4, tyX4_ok⟩, nmX4, fun x hx => (fun (z : ∀ x ∈ wsX40, x ∈ tables_1 ∧ goodWord x = true) => fl_T_of (z x hx).1 (z x hx).2) (by decide +kernel), rfl⟩
  | 5, _ => ⟨rfl, ⟨tyX5, tyX5_ok⟩, nmX5, fun x hx => (fun (z : ∀ x ∈ wsX50, x ∈ tables_1 ∧ goodWord x = true) => fl_T_of (z x hx).1 (z x hx).2) (by decide +kernel), rfl⟩
  | 6, _ => ⟨rfl, ⟨tyX6, tyX6_ok⟩, nmX6, fun x hx => (fun (z : ∀ x ∈ wsX60, x ∈ tables_1 ∧ goodWord x = true) => fl_T_of (z x hx).1 (z x hx).2) (by decide +kernel), rfl⟩
  | 7, _ => ⟨rfl, ⟨tyX7, tyX7_ok⟩, nmX7, fun x hx => (fun (z : ∀ x ∈ wsX70, x ∈ tables_1 ∧ goodWord x = true) => fl_T_of (z x hx).1 (z x hx).2) (by decide +kernel), rfl⟩
  | 8, _ => ⟨rfl, ⟨tyX8, tyX8_ok⟩, nmX8, fun x hx => (fun (z : ∀ x ∈ wsX80, x ∈ tables_1 ∧ goodWord x = true) => fl_T_of (z x hx).1 (z x hx).2) (by decide +kernel), rfl⟩
  | 9, _ => ⟨rfl, ⟨tyX9, tyX9_ok⟩, nmX9, fun x hx => (fun (z : ∀ x ∈ wsX90, x ∈ tables_1 ∧ goodWord x = true) => fl_T_of (z x hx).1 (z x hx).2) (by decide +kernel), rfl⟩
  | 10, _ => ⟨rfl, ⟨tyX10, tyX10_ok⟩, nmX10, fun x hx => (fun (z : ∀ x ∈ wsX100, x ∈ tables_1 ∧ goodWord x = true) => fl_T_of (z x hx).1 (z x hx).2) (by decide +kernel), rfl⟩
  | 11, _ => ⟨rfl, ⟨tyX11, tyX11_ok⟩, nmX11, fun x hx => (fun (z : ∀ x ∈ wsX110, x ∈ tables_1 ∧ goodWord x = true) => fl_T_of (z x hx).1 (z x hx).2) (by decide +kernel), rfl⟩
  | a + 12, h => absurd h (by omega)
def fl_grp : Instr → Nat
  | .iconst _ => 1
  | .bipush _ => 1
  | .sipush _ => 1
  | .lconst _ => 1
  | .ldc_w _ => 1
  | .ldc2_w _ => 1
  | .ldc _ => 1
  | .iload _ => 1
  | .iload_n _ => 1
  | .lload _ => 1
  | .lload_n _ => 1
  | .aload _ => 1
  | .aload_n _ => 1
  | .istore _ => 1
  | .istore_n _ => 1
  | .lstore _ => 1
  | .lstore_n _ => 1
  | .astore _ => 1
  | .astore_n _ => 1
  | .iinc _ _ => 1
  | .iadd => 1
  | .isub => 1
  | .imul => 1
  | .iand => 1
  | .ior => 1
  | .ixor => 1
  | .ishl => 1
  | .ishr => 1
  | .iushr => 1
  | .idiv => 1
  | .irem => 1
  | .ladd => 1
  | .lsub => 1
  | .land => 1
  | .lor => 1
  | .lxor => 1
  | .lcmp => 1
  | .lshl => 1
  | .lshr => 1
  | .lushr => 1
  | .i2l => 1
  | .i2c => 1
  | .i2b => 1
  | .l2i => 1
  | .ifCond _ _ => 1
  | .if_icmp _ _ => 1
  | .goto _ => 1
  | .tableswitch _ _ _ _ => 1
  | .lookupswitch _ _ => 1
  | .dup => 1
  | .dup2 => 1
  | .pop => 1
  | .getfield _ => 2
  | .putfield _ => 4
  | .getstatic _ => 2
  | .arraylength => 5
  | .iaload => 5
  | .baload => 5
  | .laload => 5
  | .iastore => 6
  | .bastore => 6
  | .lastore => 6
  | .new _ => 7
  | .newarray _ => 8
  | .ireturn => 9
  | .lreturn => 9
  | .return_ => 9
  | .invokestatic _ => 3
  | .invokevirtual _ => 3
  | .invokespecial _ => 3
  | _ => 0
theorem fl_sws_spec {β : Type} {x : Int32} {k : Nat → β} {d pc : Nat} : ∀ (os : List Int) (lo : Int) (sw : List (Int32 × Nat)), fl_sws pc lo os sw = true →
    ((x.toInt < lo ∨ lo + os.length ≤ x.toInt) ∧ fl_swi x k d sw = k d) ∨ ∃ (i : Nat) (of : Int) (t : Nat), os[i]? = some of ∧ x.toInt = lo + i ∧ (pc : Int) + of = (t : Int) ∧ fl_swi x k d sw = k t
  | [], lo, [], _ => Or.inl ⟨by rcases Int.lt_or_le x.toInt lo with q | q
                                · exact Or.inl q
                                · exact Or.inr (by simpa using q), rfl⟩
  | [], lo, _ :: _, h => by simp [fl_sws] at h
  | o :: os, lo, [], h => by simp [fl_sws] at h
  | o :: os, lo, (y, t) :: l, h => by
    simp only [fl_sws, Bool.and_eq_true, decide_eq_true_eq] at h
    obtain ⟨⟨⟨⟨h0, h1⟩, h2⟩, h3⟩, h4⟩ := h
    have hy : y.toInt = lo := by rw [h2]; exact Int32.toInt_ofInt_of_le (by show -2147483648 ≤ lo; exact h0) (by show lo < 2147483648; omega)
    by_cases e : x = y
    · exact Or.inr ⟨0, o, t, rfl, by rw [e, hy]; simp, h3, by rw [fl_swi, if_pos e]⟩
    · have ne : x.toInt ≠ y.toInt := fun z => e (Int32.toInt_inj.mp z)
      rcases fl_sws_spec (x := x) (k := k) (d := d) os (lo + 1) l h4 with ⟨g1, g2⟩ | ⟨i, of, t', g1, g2, g3, g4⟩
      · exact Or.inl ⟨by rw [List.length_cons]; omega, by rw [fl_swi, if_neg e]; exact g2⟩
      · exact Or.inr ⟨i + 1, of, t', g1, by rw [g2]; omega, g3, by rw [fl_swi, if_neg e]; exact g4⟩
theorem fl_lks_spec {β : Type} {x : Int32} {k : Nat → β} {d pc : Nat} {df : Int} (hd : (pc : Int) + df = (d : Int)) : ∀ (ps : List (Int × Int)) (sw : List (Int32 × Nat)), fl_lks pc ps sw = true →
    ∃ (of : Int) (t : Nat), Op.lookupswitch.offset ps df x.toInt = of ∧ (pc : Int) + of = (t : Int) ∧ fl_swi x k d sw = k t
  | [], [], _ => ⟨df, d, rfl, hd, rfl⟩
  | [], _ :: _, h => by simp [fl_lks] at h
  | _ :: _, [], h => by simp [fl_lks] at h
  | (v, of) :: os, (y, t) :: l, h => by
    simp only [fl_lks, Bool.and_eq_true, decide_eq_true_eq] at h
    obtain ⟨⟨h1, h2⟩, h3⟩ := h
    rw [Op.lookupswitch.offset_cons]
    by_cases e : x = y
    · refine ⟨of, t, ?_, h2, by rw [fl_swi, if_pos e]⟩
      rw [if_pos (by rw [e, h1])]
    · obtain ⟨of', t', g1, g2, g3⟩ := fl_lks_spec (x := x) (k := k) hd os l h3
      refine ⟨of', t', ?_, g2, by rw [fl_swi, if_neg e]; exact g3⟩
      rw [if_neg (fun z => e (Int32.toInt_inj.mp (z.symm.trans h1.symm)))]
      exact g1
section FLS
variable {l : Launch} {D : va_G} {G : ClassId × ClassId × ClassId} {w : fl_V} {Ls : Nat} {xs : Nat → Int32} {p : Program} {e : Env} {R : Room} {s : State} {m : MethodId} {args : Array Value} {below : List Frame} {meth : Method} {c : Code} {Q : State → Prop} {k0 s0 mid pc : Nat} {L : fl_L} {st : List Value} {h : fl_H} {o : fl_O}
variable {nx : Nat → fl_L → List Value → fl_H → Option fl_O} {cl : Nat → List Value → fl_H → Option fl_O}
set_option maxHeartbeats 4000000 in
set_option maxRecDepth 20000 in
theorem fl_one1 {len a b c9 d9 p9 : Nat} {x9 : Int32} {q9 : Int64} {sw : List (Int32 × Nat)} {lv : Option (List Bool)} (hC : fl_Cx l D G w Ls xs mid p s m args meth c) (nxt : ∀ pc L st h, nx pc L st h = some o → fl_Wd l D G w Ls xs p e R s m args below meth c Q k0 s0 mid pc L st h) : ∀ ins : Instr,
    fl_grp ins = 1 → fl_ok mid pc (ins, len, a, b, c9, d9, p9, x9, q9, sw, lv) = true → fl_phi nx cl (fl_step (ins, len, a, b, c9, d9, p9, x9, q9, sw, lv) pc L st h) = some o → fl_Wd l D G w Ls xs p e R s m args below meth c Q k0 s0 mid pc L st h := by
  intro ins hgr hok hφ H locs cells slots ls hR hS hq hc hs hL
  obtain ⟨hx, hb, hr, hml, hown, hts, hlk, hnm, het, hst, hEX⟩ := id hC
  have hw : fl_fm w := hEX.2.2.2.2.2.2.2.2.2.2.2
  have hz : ¬ (fl_phi nx cl none = some o) := fun z => by cases z
  cases ins
  case iconst n =>
    simp only [fl_ok, Bool.and_eq_true, decide_eq_true_eq] at hok
    obtain ⟨hd, h1, h2⟩ := hok
    subst h1
    exact lv_iconst hx hb hd h2 (nxt _ _ _ _ (fl_phi_nx hφ) H locs cells slots ls hR hS hq hc hs hL)
  case bipush n =>
    simp only [fl_ok, Bool.and_eq_true, decide_eq_true_eq] at hok
    obtain ⟨hd, h1, h2⟩ := hok
    subst h1
    exact lv_bipush hx hb hd h2 (nxt _ _ _ _ (fl_phi_nx hφ) H locs cells slots ls hR hS hq hc hs hL)
  case sipush n =>
    simp only [fl_ok, Bool.and_eq_true, decide_eq_true_eq] at hok
    obtain ⟨hd, h1, h2⟩ := hok
    subst h1
    exact lv_sipush hx hb hd h2 (nxt _ _ _ _ (fl_phi_nx hφ) H locs cells slots ls hR hS hq hc hs hL)
  case lconst n =>
    simp only [fl_ok, Bool.and_eq_true, decide_eq_true_eq] at hok
    obtain ⟨hd, h1, h2⟩ := hok
    subst h1
    exact lv_lconst hx hb hd h2 (nxt _ _ _ _ (fl_phi_nx hφ) H locs cells slots ls hR hS hq hc hs hL)
  case ldc_w n =>
    simp only [fl_ok, Bool.and_eq_true, decide_eq_true_eq] at hok
    obtain ⟨hd, h1, h2⟩ := hok
    subst h1
    exact lv_ldcw hx hb hown (hts _ (fl_t_mem h2)) hd (nxt _ _ _ _ (fl_phi_nx hφ) H locs cells slots ls hR hS hq hc hs hL)
  case ldc2_w n =>
    simp only [fl_ok, Bool.and_eq_true, decide_eq_true_eq] at hok
    obtain ⟨hd, h1, h2⟩ := hok
    subst h1
    exact lv_ldc2 hx hb hown (hts _ (fl_t_mem h2)) hd (nxt _ _ _ _ (fl_phi_nx hφ) H locs cells slots ls hR hS hq hc hs hL)
  case ldc n =>
    simp only [fl_ok, Bool.and_eq_true, decide_eq_true_eq] at hok
    obtain ⟨hd, h1, h2⟩ := hok
    subst h1
    match c9, h2, hφ with
    | 0, h2, hφ => exact lv_ldc hx hb hown (hts _ (fl_t_mem h2)) hd (nxt _ _ _ _ (fl_phi_nx hφ) H locs cells slots ls hR hS hq hc hs hL)
    | 1, h2, hφ =>
      simp only [Bool.and_eq_true, decide_eq_true_eq, List.any_eq_true] at h2
      obtain ⟨⟨h3, h4⟩, z, h5, ⟨h6, h7⟩, h8⟩ := h2
      have hstr := hEX.2.2.1 z h5
      have ea : fl_ad w a = w.2.1 z.2.2.2 := by
        unfold fl_ad
        rw [if_neg (by omega), if_pos (by omega), h8]
      rw [h6, h7] at hstr
      refine va_ldcS hx hb hown hstr hd ?_
      have := nxt _ _ _ _ (fl_phi_nx hφ) H locs cells slots ls hR hS hq hc hs hL
      rw [← ea]
      exact this
    | _ + 2, h2, hφ => cases hφ
  case iload n =>
    simp only [fl_ok, Bool.and_eq_true, decide_eq_true_eq] at hok
    obtain ⟨hd, h1, h2⟩ := hok
    subst h1
    subst h2
    obtain ⟨v, hv, hφ⟩ := fl_iv_inv (z := fun q => fl_phi nx cl q = some o) hz hφ
    exact lv_iload hx hb hd (hL.2.2 _ _ hv) (nxt _ _ _ _ (fl_phi_nx hφ) H locs cells slots ls hR hS hq hc hs hL)
  case iload_n n =>
    simp only [fl_ok, Bool.and_eq_true, decide_eq_true_eq] at hok
    obtain ⟨hd, h1, h2⟩ := hok
    subst h1
    obtain ⟨v, hv, hφ⟩ := fl_iv_inv (z := fun q => fl_phi nx cl q = some o) hz hφ
    exact lv_iload_n hx hb hd h2 (hL.2.2 _ _ hv) (nxt _ _ _ _ (fl_phi_nx hφ) H locs cells slots ls hR hS hq hc hs hL)
  case lload n =>
    simp only [fl_ok, Bool.and_eq_true, decide_eq_true_eq] at hok
    obtain ⟨hd, h1, h2⟩ := hok
    subst h1
    subst h2
    obtain ⟨v, hv, hφ⟩ := fl_lv_inv (z := fun q => fl_phi nx cl q = some o) hz hφ
    exact lv_lload hx hb hd (hL.2.2 _ _ hv) (nxt _ _ _ _ (fl_phi_nx hφ) H locs cells slots ls hR hS hq hc hs hL)
  case lload_n n =>
    simp only [fl_ok, Bool.and_eq_true, decide_eq_true_eq] at hok
    obtain ⟨hd, h1, h2⟩ := hok
    subst h1
    obtain ⟨v, hv, hφ⟩ := fl_lv_inv (z := fun q => fl_phi nx cl q = some o) hz hφ
    exact lv_lload_n hx hb hd h2 (hL.2.2 _ _ hv) (nxt _ _ _ _ (fl_phi_nx hφ) H locs cells slots ls hR hS hq hc hs hL)
  case aload n =>
    simp only [fl_ok, Bool.and_eq_true, decide_eq_true_eq] at hok
    obtain ⟨hd, h1, h2⟩ := hok
    subst h1
    subst h2
    obtain ⟨v, hv, hφ⟩ := fl_rv_inv (z := fun q => fl_phi nx cl q = some o) hz hφ
    exact lv_aload hx hb hd (hL.2.2 _ _ hv) (nxt _ _ _ _ (fl_phi_nx hφ) H locs cells slots ls hR hS hq hc hs hL)
  case aload_n n =>
    simp only [fl_ok, Bool.and_eq_true, decide_eq_true_eq] at hok
    obtain ⟨hd, h1, h2⟩ := hok
    subst h1
    obtain ⟨v, hv, hφ⟩ := fl_rv_inv (z := fun q => fl_phi nx cl q = some o) hz hφ
    exact lv_aload_n hx hb hd h2 (hL.2.2 _ _ hv) (nxt _ _ _ _ (fl_phi_nx hφ) H locs cells slots ls hR hS hq hc hs hL)
  case istore n =>
    simp only [fl_ok, Bool.and_eq_true, decide_eq_true_eq] at hok
    obtain ⟨hd, ⟨h1, h2⟩, h3⟩ := hok
    subst h1
    subst h2
    obtain ⟨v, r, hst2, hφ⟩ := fl_i1_inv (z := fun q => fl_phi nx cl q = some o) hz hφ
    subst hst2
    obtain ⟨g1, hφ⟩ := fl_phi_ng hφ
    refine lv_istore hx hb hd hL.has h3 rfl (fun ls' hl' => ?_)
    exact nxt _ _ _ _ hφ H locs cells slots ls' hR hS hq hc hs (fl_LR.st1 (v := .int v) hw g1 hl')
  case istore_n n =>
    simp only [fl_ok, Bool.and_eq_true, decide_eq_true_eq] at hok
    obtain ⟨hd, ⟨h1, h2⟩, h3⟩ := hok
    subst h1
    obtain ⟨v, r, hst2, hφ⟩ := fl_i1_inv (z := fun q => fl_phi nx cl q = some o) hz hφ
    subst hst2
    obtain ⟨g1, hφ⟩ := fl_phi_ng hφ
    refine lv_istore_n hx hb hd h2 hL.has h3 rfl (fun ls' hl' => ?_)
    exact nxt _ _ _ _ hφ H locs cells slots ls' hR hS hq hc hs (fl_LR.st1 (v := .int v) hw g1 hl')
  case lstore n =>
    simp only [fl_ok, Bool.and_eq_true, decide_eq_true_eq] at hok
    obtain ⟨hd, ⟨h1, h2⟩, h3⟩ := hok
    subst h1
    subst h2
    obtain ⟨v, r, hst2, hφ⟩ := fl_l1_inv (z := fun q => fl_phi nx cl q = some o) hz hφ
    subst hst2
    obtain ⟨g1, hφ⟩ := fl_phi_ng hφ
    refine lv_lstore hx hb hd hL.has h3 rfl (fun ls' hl' => ?_)
    exact nxt _ _ _ _ hφ H locs cells slots ls' hR hS hq hc hs (fl_LR.st2 (v := .long v) hw g1 hl')
  case lstore_n n =>
    simp only [fl_ok, Bool.and_eq_true, decide_eq_true_eq] at hok
    obtain ⟨hd, ⟨h1, h2⟩, h3⟩ := hok
    subst h1
    obtain ⟨v, r, hst2, hφ⟩ := fl_l1_inv (z := fun q => fl_phi nx cl q = some o) hz hφ
    subst hst2
    obtain ⟨g1, hφ⟩ := fl_phi_ng hφ
    refine lv_lstore_n hx hb hd h2 hL.has h3 rfl (fun ls' hl' => ?_)
    exact nxt _ _ _ _ hφ H locs cells slots ls' hR hS hq hc hs (fl_LR.st2 (v := .long v) hw g1 hl')
  case astore n =>
    simp only [fl_ok, Bool.and_eq_true, decide_eq_true_eq] at hok
    obtain ⟨hd, ⟨h1, h2⟩, h3⟩ := hok
    subst h1
    subst h2
    obtain ⟨v, r, hst2, hφ⟩ := fl_r1_inv (z := fun q => fl_phi nx cl q = some o) hz hφ
    subst hst2
    obtain ⟨g1, hφ⟩ := fl_phi_ng hφ
    refine lv_astore hx hb hd hL.has h3 rfl (fun ls' hl' => ?_)
    exact nxt _ _ _ _ hφ H locs cells slots ls' hR hS hq hc hs (fl_LR.st1 (v := .ref v) hw g1 hl')
  case astore_n n =>
    simp only [fl_ok, Bool.and_eq_true, decide_eq_true_eq] at hok
    obtain ⟨hd, ⟨h1, h2⟩, h3⟩ := hok
    subst h1
    obtain ⟨v, r, hst2, hφ⟩ := fl_r1_inv (z := fun q => fl_phi nx cl q = some o) hz hφ
    subst hst2
    obtain ⟨g1, hφ⟩ := fl_phi_ng hφ
    refine lv_astore_n hx hb hd h2 hL.has h3 rfl (fun ls' hl' => ?_)
    exact nxt _ _ _ _ hφ H locs cells slots ls' hR hS hq hc hs (fl_LR.st1 (v := .ref v) hw g1 hl')
  case iinc i n =>
    simp only [fl_ok, Bool.and_eq_true, decide_eq_true_eq] at hok
    obtain ⟨hd, ⟨⟨h1, h2⟩, h3⟩, h4⟩ := hok
    subst h1
    subst h2
    obtain ⟨v, hv, hφ⟩ := fl_iv_inv (z := fun q => fl_phi nx cl q = some o) hz hφ
    obtain ⟨g1, hφ⟩ := fl_phi_ng hφ
    obtain ⟨k, hk⟩ := List.getElem?_of_mem ((fl_as_mem w L 0 (i, .int v)).mpr ⟨i, .int v, by rw [Nat.zero_add]; rfl, hv⟩)
    refine lv_iinc (v := v + x9) hx hb hd hL.has hk (by rw [h3]) h4 rfl (fun ls' hl' => ?_)
    exact nxt _ _ _ _ hφ H locs cells slots ls' hR hS hq hc hs (fl_LR.st1 (v := .int (v + x9)) hw g1 hl')
  case iadd =>
    simp only [fl_ok, Bool.and_eq_true, decide_eq_true_eq] at hok
    obtain ⟨hd, h1⟩ := hok
    subst h1
    obtain ⟨x, y, r, hst2, hφ⟩ := fl_ii_inv (z := fun q => fl_phi nx cl q = some o) hz hφ
    subst hst2
    exact lv_iadd hx hb hd (nxt _ _ _ _ (fl_phi_nx hφ) H locs cells slots ls hR hS hq hc hs hL)
  case isub =>
    simp only [fl_ok, Bool.and_eq_true, decide_eq_true_eq] at hok
    obtain ⟨hd, h1⟩ := hok
    subst h1
    obtain ⟨x, y, r, hst2, hφ⟩ := fl_ii_inv (z := fun q => fl_phi nx cl q = some o) hz hφ
    subst hst2
    exact lv_isub hx hb hd (nxt _ _ _ _ (fl_phi_nx hφ) H locs cells slots ls hR hS hq hc hs hL)
  case imul =>
    simp only [fl_ok, Bool.and_eq_true, decide_eq_true_eq] at hok
    obtain ⟨hd, h1⟩ := hok
    subst h1
    obtain ⟨x, y, r, hst2, hφ⟩ := fl_ii_inv (z := fun q => fl_phi nx cl q = some o) hz hφ
    subst hst2
    exact lv_imul hx hb hd (nxt _ _ _ _ (fl_phi_nx hφ) H locs cells slots ls hR hS hq hc hs hL)
  case iand =>
    simp only [fl_ok, Bool.and_eq_true, decide_eq_true_eq] at hok
    obtain ⟨hd, h1⟩ := hok
    subst h1
    obtain ⟨x, y, r, hst2, hφ⟩ := fl_ii_inv (z := fun q => fl_phi nx cl q = some o) hz hφ
    subst hst2
    exact lv_iand hx hb hd (nxt _ _ _ _ (fl_phi_nx hφ) H locs cells slots ls hR hS hq hc hs hL)
  case ior =>
    simp only [fl_ok, Bool.and_eq_true, decide_eq_true_eq] at hok
    obtain ⟨hd, h1⟩ := hok
    subst h1
    obtain ⟨x, y, r, hst2, hφ⟩ := fl_ii_inv (z := fun q => fl_phi nx cl q = some o) hz hφ
    subst hst2
    exact lv_ior hx hb hd (nxt _ _ _ _ (fl_phi_nx hφ) H locs cells slots ls hR hS hq hc hs hL)
  case ixor =>
    simp only [fl_ok, Bool.and_eq_true, decide_eq_true_eq] at hok
    obtain ⟨hd, h1⟩ := hok
    subst h1
    obtain ⟨x, y, r, hst2, hφ⟩ := fl_ii_inv (z := fun q => fl_phi nx cl q = some o) hz hφ
    subst hst2
    exact lv_ixor hx hb hd (nxt _ _ _ _ (fl_phi_nx hφ) H locs cells slots ls hR hS hq hc hs hL)
  case ishl =>
    simp only [fl_ok, Bool.and_eq_true, decide_eq_true_eq] at hok
    obtain ⟨hd, h1⟩ := hok
    subst h1
    obtain ⟨x, y, r, hst2, hφ⟩ := fl_ii_inv (z := fun q => fl_phi nx cl q = some o) hz hφ
    subst hst2
    exact lv_ishl hx hb hd (nxt _ _ _ _ (fl_phi_nx hφ) H locs cells slots ls hR hS hq hc hs hL)
  case ishr =>
    simp only [fl_ok, Bool.and_eq_true, decide_eq_true_eq] at hok
    obtain ⟨hd, h1⟩ := hok
    subst h1
    obtain ⟨x, y, r, hst2, hφ⟩ := fl_ii_inv (z := fun q => fl_phi nx cl q = some o) hz hφ
    subst hst2
    exact lv_ishr hx hb hd (nxt _ _ _ _ (fl_phi_nx hφ) H locs cells slots ls hR hS hq hc hs hL)
  case iushr =>
    simp only [fl_ok, Bool.and_eq_true, decide_eq_true_eq] at hok
    obtain ⟨hd, h1⟩ := hok
    subst h1
    obtain ⟨x, y, r, hst2, hφ⟩ := fl_ii_inv (z := fun q => fl_phi nx cl q = some o) hz hφ
    subst hst2
    exact lv_iushr hx hb hd rfl (nxt _ _ _ _ (fl_phi_nx hφ) H locs cells slots ls hR hS hq hc hs hL)
  case idiv =>
    simp only [fl_ok, Bool.and_eq_true, decide_eq_true_eq] at hok
    obtain ⟨hd, h1⟩ := hok
    subst h1
    obtain ⟨x, y, r, hst2, hφ⟩ := fl_ii_inv (z := fun q => fl_phi nx cl q = some o) hz hφ
    subst hst2
    obtain ⟨g1, hφ⟩ := fl_phi_ng hφ
    exact lv_idiv hx hb hd (of_decide_eq_true g1) (nxt _ _ _ _ hφ H locs cells slots ls hR hS hq hc hs hL)
  case irem =>
    simp only [fl_ok, Bool.and_eq_true, decide_eq_true_eq] at hok
    obtain ⟨hd, h1⟩ := hok
    subst h1
    obtain ⟨x, y, r, hst2, hφ⟩ := fl_ii_inv (z := fun q => fl_phi nx cl q = some o) hz hφ
    subst hst2
    obtain ⟨g1, hφ⟩ := fl_phi_ng hφ
    exact lv_irem hx hb hd (of_decide_eq_true g1) (nxt _ _ _ _ hφ H locs cells slots ls hR hS hq hc hs hL)
  case ladd =>
    simp only [fl_ok, Bool.and_eq_true, decide_eq_true_eq] at hok
    obtain ⟨hd, h1⟩ := hok
    subst h1
    obtain ⟨x, y, r, hst2, hφ⟩ := fl_ll_inv (z := fun q => fl_phi nx cl q = some o) hz hφ
    subst hst2
    exact lv_ladd hx hb hd (nxt _ _ _ _ (fl_phi_nx hφ) H locs cells slots ls hR hS hq hc hs hL)
  case lsub =>
    simp only [fl_ok, Bool.and_eq_true, decide_eq_true_eq] at hok
    obtain ⟨hd, h1⟩ := hok
    subst h1
    obtain ⟨x, y, r, hst2, hφ⟩ := fl_ll_inv (z := fun q => fl_phi nx cl q = some o) hz hφ
    subst hst2
    exact lv_lsub hx hb hd (nxt _ _ _ _ (fl_phi_nx hφ) H locs cells slots ls hR hS hq hc hs hL)
  case land =>
    simp only [fl_ok, Bool.and_eq_true, decide_eq_true_eq] at hok
    obtain ⟨hd, h1⟩ := hok
    subst h1
    obtain ⟨x, y, r, hst2, hφ⟩ := fl_ll_inv (z := fun q => fl_phi nx cl q = some o) hz hφ
    subst hst2
    exact lv_land hx hb hd (nxt _ _ _ _ (fl_phi_nx hφ) H locs cells slots ls hR hS hq hc hs hL)
  case lor =>
    simp only [fl_ok, Bool.and_eq_true, decide_eq_true_eq] at hok
    obtain ⟨hd, h1⟩ := hok
    subst h1
    obtain ⟨x, y, r, hst2, hφ⟩ := fl_ll_inv (z := fun q => fl_phi nx cl q = some o) hz hφ
    subst hst2
    exact lv_lor hx hb hd (nxt _ _ _ _ (fl_phi_nx hφ) H locs cells slots ls hR hS hq hc hs hL)
  case lxor =>
    simp only [fl_ok, Bool.and_eq_true, decide_eq_true_eq] at hok
    obtain ⟨hd, h1⟩ := hok
    subst h1
    obtain ⟨x, y, r, hst2, hφ⟩ := fl_ll_inv (z := fun q => fl_phi nx cl q = some o) hz hφ
    subst hst2
    exact lv_lxor hx hb hd (nxt _ _ _ _ (fl_phi_nx hφ) H locs cells slots ls hR hS hq hc hs hL)
  case lcmp =>
    simp only [fl_ok, Bool.and_eq_true, decide_eq_true_eq] at hok
    obtain ⟨hd, h1⟩ := hok
    subst h1
    obtain ⟨x, y, r, hst2, hφ⟩ := fl_ll_inv (z := fun q => fl_phi nx cl q = some o) hz hφ
    subst hst2
    exact W.lcmp hx hb hd (nxt _ _ _ _ (fl_phi_nx hφ) H locs cells slots ls hR hS hq hc hs hL)
  case lshl =>
    simp only [fl_ok, Bool.and_eq_true, decide_eq_true_eq] at hok
    obtain ⟨hd, h1⟩ := hok
    subst h1
    obtain ⟨x, y, r, hst2, hφ⟩ := fl_li_inv (z := fun q => fl_phi nx cl q = some o) hz hφ
    subst hst2
    exact lv_lshl hx hb hd rfl (nxt _ _ _ _ (fl_phi_nx hφ) H locs cells slots ls hR hS hq hc hs hL)
  case lshr =>
    simp only [fl_ok, Bool.and_eq_true, decide_eq_true_eq] at hok
    obtain ⟨hd, h1⟩ := hok
    subst h1
    obtain ⟨x, y, r, hst2, hφ⟩ := fl_li_inv (z := fun q => fl_phi nx cl q = some o) hz hφ
    subst hst2
    exact lv_lshr hx hb hd rfl (nxt _ _ _ _ (fl_phi_nx hφ) H locs cells slots ls hR hS hq hc hs hL)
  case lushr =>
    simp only [fl_ok, Bool.and_eq_true, decide_eq_true_eq] at hok
    obtain ⟨hd, h1⟩ := hok
    subst h1
    obtain ⟨x, y, r, hst2, hφ⟩ := fl_li_inv (z := fun q => fl_phi nx cl q = some o) hz hφ
    subst hst2
    exact lv_lushr hx hb hd rfl (nxt _ _ _ _ (fl_phi_nx hφ) H locs cells slots ls hR hS hq hc hs hL)
  case i2l =>
    simp only [fl_ok, Bool.and_eq_true, decide_eq_true_eq] at hok
    obtain ⟨hd, h1⟩ := hok
    subst h1
    obtain ⟨x, r, hst2, hφ⟩ := fl_i1_inv (z := fun q => fl_phi nx cl q = some o) hz hφ
    subst hst2
    exact lv_i2l hx hb hd rfl (nxt _ _ _ _ (fl_phi_nx hφ) H locs cells slots ls hR hS hq hc hs hL)
  case i2c =>
    simp only [fl_ok, Bool.and_eq_true, decide_eq_true_eq] at hok
    obtain ⟨hd, h1⟩ := hok
    subst h1
    obtain ⟨x, r, hst2, hφ⟩ := fl_i1_inv (z := fun q => fl_phi nx cl q = some o) hz hφ
    subst hst2
    exact lv_i2c hx hb hd rfl (nxt _ _ _ _ (fl_phi_nx hφ) H locs cells slots ls hR hS hq hc hs hL)
  case i2b =>
    simp only [fl_ok, Bool.and_eq_true, decide_eq_true_eq] at hok
    obtain ⟨hd, h1⟩ := hok
    subst h1
    obtain ⟨x, r, hst2, hφ⟩ := fl_i1_inv (z := fun q => fl_phi nx cl q = some o) hz hφ
    subst hst2
    exact lv_i2b hx hb hd rfl (nxt _ _ _ _ (fl_phi_nx hφ) H locs cells slots ls hR hS hq hc hs hL)
  case l2i =>
    simp only [fl_ok, Bool.and_eq_true, decide_eq_true_eq] at hok
    obtain ⟨hd, h1⟩ := hok
    subst h1
    obtain ⟨x, r, hst2, hφ⟩ := fl_l1_inv (z := fun q => fl_phi nx cl q = some o) hz hφ
    subst hst2
    exact lv_l2i hx hb hd rfl (nxt _ _ _ _ (fl_phi_nx hφ) H locs cells slots ls hR hS hq hc hs hL)
  case ifCond k off =>
    simp only [fl_ok, Bool.and_eq_true, decide_eq_true_eq] at hok
    obtain ⟨hd, h1, h2⟩ := hok
    subst h1
    obtain ⟨x, r, hst2, hφ⟩ := fl_i1_inv (z := fun q => fl_phi nx cl q = some o) hz hφ
    subst hst2
    obtain ⟨t1, t2⟩ := fl_phi_br hφ
    cases k with
    | eq => exact lv_if_eq hx hb hd h2 (fun z => nxt _ _ _ _ (t1 (decide_eq_true z)) H locs cells slots ls hR hS hq hc hs hL) (fun z => nxt _ _ _ _ (t2 (decide_eq_false z)) H locs cells slots ls hR hS hq hc hs hL)
    | ne => exact lv_if_ne hx hb hd h2 (fun z => nxt _ _ _ _ (t1 (decide_eq_true z)) H locs cells slots ls hR hS hq hc hs hL) (fun z => nxt _ _ _ _ (t2 (decide_eq_false (fun q => q z))) H locs cells slots ls hR hS hq hc hs hL)
    | lt => exact lv_if_lt hx hb hd h2 (fun z => nxt _ _ _ _ (t1 (decide_eq_true z)) H locs cells slots ls hR hS hq hc hs hL) (fun z => nxt _ _ _ _ (t2 (decide_eq_false z)) H locs cells slots ls hR hS hq hc hs hL)
    | ge => exact lv_if_ge hx hb hd h2 (fun z => nxt _ _ _ _ (t1 (decide_eq_true z)) H locs cells slots ls hR hS hq hc hs hL) (fun z => nxt _ _ _ _ (t2 (decide_eq_false z)) H locs cells slots ls hR hS hq hc hs hL)
    | gt => exact lv_if_gt hx hb hd h2 (fun z => nxt _ _ _ _ (t1 (decide_eq_true z)) H locs cells slots ls hR hS hq hc hs hL) (fun z => nxt _ _ _ _ (t2 (decide_eq_false z)) H locs cells slots ls hR hS hq hc hs hL)
    | le => exact lv_if_le hx hb hd h2 (fun z => nxt _ _ _ _ (t1 (decide_eq_true z)) H locs cells slots ls hR hS hq hc hs hL) (fun z => nxt _ _ _ _ (t2 (decide_eq_false z)) H locs cells slots ls hR hS hq hc hs hL)
  case if_icmp k off =>
    simp only [fl_ok, Bool.and_eq_true, decide_eq_true_eq] at hok
    obtain ⟨hd, h1, h2⟩ := hok
    subst h1
    obtain ⟨x, y, r, hst2, hφ⟩ := fl_ii_inv (z := fun q => fl_phi nx cl q = some o) hz hφ
    subst hst2
    obtain ⟨t1, t2⟩ := fl_phi_br hφ
    cases k with
    | eq => exact lv_icmp_eq hx hb hd h2 (fun z => nxt _ _ _ _ (t1 (decide_eq_true z)) H locs cells slots ls hR hS hq hc hs hL) (fun z => nxt _ _ _ _ (t2 (decide_eq_false z)) H locs cells slots ls hR hS hq hc hs hL)
    | ne => exact lv_icmp_ne hx hb hd h2 (fun z => nxt _ _ _ _ (t1 (decide_eq_true z)) H locs cells slots ls hR hS hq hc hs hL) (fun z => nxt _ _ _ _ (t2 (decide_eq_false (fun q => q z))) H locs cells slots ls hR hS hq hc hs hL)
    | lt => exact lv_icmp_lt hx hb hd h2 (fun z => nxt _ _ _ _ (t1 (decide_eq_true z)) H locs cells slots ls hR hS hq hc hs hL) (fun z => nxt _ _ _ _ (t2 (decide_eq_false z)) H locs cells slots ls hR hS hq hc hs hL)
    | ge => exact lv_icmp_ge hx hb hd h2 (fun z => nxt _ _ _ _ (t1 (decide_eq_true z)) H locs cells slots ls hR hS hq hc hs hL) (fun z => nxt _ _ _ _ (t2 (decide_eq_false z)) H locs cells slots ls hR hS hq hc hs hL)
    | gt => exact lv_icmp_gt hx hb hd h2 (fun z => nxt _ _ _ _ (t1 (decide_eq_true z)) H locs cells slots ls hR hS hq hc hs hL) (fun z => nxt _ _ _ _ (t2 (decide_eq_false z)) H locs cells slots ls hR hS hq hc hs hL)
    | le => exact lv_icmp_le hx hb hd h2 (fun z => nxt _ _ _ _ (t1 (decide_eq_true z)) H locs cells slots ls hR hS hq hc hs hL) (fun z => nxt _ _ _ _ (t2 (decide_eq_false z)) H locs cells slots ls hR hS hq hc hs hL)
  case goto off =>
    simp only [fl_ok, Bool.and_eq_true, decide_eq_true_eq] at hok
    obtain ⟨hd, h1, h2⟩ := hok
    subst h1
    exact lv_goto hx hb hd h2 (nxt _ _ _ _ (fl_phi_nx hφ) H locs cells slots ls hR hS hq hc hs hL)
  case tableswitch df lo hi offs =>
    simp only [fl_ok, Bool.and_eq_true, decide_eq_true_eq] at hok
    obtain ⟨hd, ⟨⟨h1, h2⟩, h3⟩, h4⟩ := hok
    obtain ⟨x, r, hst2, hφ⟩ := fl_i1_inv (z := fun q => fl_phi nx cl q = some o) hz hφ
    subst hst2
    have hφ : fl_swi x (fun t => nx t L r h) a sw = some o := hφ
    rcases fl_sws_spec (x := x) (k := fun t => nx t L r h) offs.toList lo sw h4 with ⟨g1, g2⟩ | ⟨i, of, t, g1, g2, g3, g4⟩
    · rw [g2] at hφ
      refine lv_tableOut hx hb hd (by rw [Array.length_toList] at g1; omega) h1 (nxt _ _ _ _ hφ H locs cells slots ls hR hS hq hc hs hL)
    · rw [g4] at hφ
      have hi := (List.getElem?_eq_some_iff.mp g1).1
      rw [Array.length_toList] at hi
      refine lv_tableIn hx hb hd (by omega) (by omega) (off := of) (tgt := t) (by rw [show (x.toInt - lo).toNat = i by omega, ← Array.getElem?_toList]; exact g1) g3 (nxt _ _ _ _ hφ H locs cells slots ls hR hS hq hc hs hL)
  case lookupswitch df ps =>
    simp only [fl_ok, Bool.and_eq_true, decide_eq_true_eq] at hok
    obtain ⟨hd, ⟨h1, h2⟩, h3⟩ := hok
    obtain ⟨x, r, hst2, hφ⟩ := fl_i1_inv (z := fun q => fl_phi nx cl q = some o) hz hφ
    subst hst2
    have hφ : fl_swi x (fun t => nx t L r h) a sw = some o := hφ
    obtain ⟨of, t, g1, g2, g3⟩ := fl_lks_spec (x := x) (k := fun t => nx t L r h) (df := df) h1 ps.toList sw h3
    rw [g3] at hφ
    exact lv_lookup hx hb hd h2 g1 g2 (nxt _ _ _ _ hφ H locs cells slots ls hR hS hq hc hs hL)
  case dup =>
    simp only [fl_ok, Bool.and_eq_true, decide_eq_true_eq] at hok
    obtain ⟨hd, h1⟩ := hok
    subst h1
    match st, hφ with
    | .int v :: r, hφ => exact lv_dup hx hb hd rfl (nxt _ _ _ _ (fl_phi_nx hφ) H locs cells slots ls hR hS hq hc hs hL)
    | .ref v :: r, hφ => exact lv_dup hx hb hd rfl (nxt _ _ _ _ (fl_phi_nx hφ) H locs cells slots ls hR hS hq hc hs hL)
  case dup2 =>
    simp only [fl_ok, Bool.and_eq_true, decide_eq_true_eq] at hok
    obtain ⟨hd, h1⟩ := hok
    subst h1
    obtain ⟨x, i, r, hst2, hφ⟩ := fl_ri_inv (z := fun q => fl_phi nx cl q = some o) hz hφ
    subst hst2
    exact lv_dup2_11 hx hb hd rfl rfl (nxt _ _ _ _ (fl_phi_nx hφ) H locs cells slots ls hR hS hq hc hs hL)
  case pop =>
    simp only [fl_ok, Bool.and_eq_true, decide_eq_true_eq] at hok
    obtain ⟨hd, h1⟩ := hok
    subst h1
    obtain ⟨x, r, hst2, hφ⟩ := fl_i1_inv (z := fun q => fl_phi nx cl q = some o) hz hφ
    subst hst2
    exact lv_pop hx hb hd rfl (nxt _ _ _ _ (fl_phi_nx hφ) H locs cells slots ls hR hS hq hc hs hL)
  all_goals (simp [fl_grp] at hgr)
end FLS
end
section
/-! ONE STEP of the abstract machine is a step of the machine: the heap, the ends -/
theorem fl_fget {w : fl_V} {h : fl_H} {k a b t : Nat} (ht : (fl_ft a)[b]? = some t) : (fl_fs w h k (fl_ft a) 0)[b]? = some (fl_fv w h k b t) := by
  rw [fl_fs_at, ht, Option.map_some, Nat.zero_add]
theorem fl_fset {w : fl_V} {h h' : fl_H} {k a b t : Nat} {v : Value} (ht : (fl_ft a)[b]? = some t) (hv : fl_fv w h' k b t = v) (ho : ∀ j u, j ≠ b → fl_fv w h' k j u = fl_fv w h k j u) : fl_fs w h' k (fl_ft a) 0 = (fl_fs w h k (fl_ft a) 0).set b v := by
  apply List.ext_getElem?
  intro j
  have hb := (List.getElem?_eq_some_iff.mp ht).1
  by_cases e : j = b
  · subst e
    rw [List.getElem?_set_self (by rw [fl_fs_len]; exact hb), fl_fget ht, hv]
  · rw [List.getElem?_set_ne (Ne.symm e), fl_fs_at, fl_fs_at]
    cases (fl_ft a)[j]? with
    | none => rfl
    | some u => rw [Option.map_some, Option.map_some, Nat.zero_add, ho j u e]
/-- the default of a kind of field -/
def fl_dv (t : Nat) : Value := match t with
  | 1 => .long 0
  | 2 => .null
  | _ => .int 0
theorem fl_cls2 : ∀ a, a < 12 → (List.range (fl_cl0 a).2.2).all (fun k => match parseFieldDescriptor ((fl_cl0 a).2.1 k).2.2.1, (fl_ft a)[k]? with
    | some ty, some t => decide (defaultValue ty = fl_dv t)
    | _, _ => false) = true := by decide +kernel
section FLH
variable {l : Launch} {D : va_G} {G : ClassId × ClassId × ClassId} {w : fl_V} {Ls : Nat} {xs : Nat → Int32} {p : Program} {e : Env} {R : Room} {s : State} {m : MethodId} {args : Array Value} {below : List Frame} {meth : Method} {c : Code} {Q : State → Prop} {k0 s0 mid pc : Nat} {L : fl_L} {st : List Value} {h : fl_H} {o : fl_O}
variable {nx : Nat → fl_L → List Value → fl_H → Option fl_O} {cl : Nat → List Value → fl_H → Option fl_O} {H : Heap} {locs : List Loc} {cells slots : Nat} {ls : Array Slot}
/-- a field of an object is read -/
theorem fl_getf (hC : fl_Cx l D G w Ls xs mid p s m args meth c) (hR : fl_R D G w Ls xs h H) {i k a b t p9 : Nat} {r : List Value} (hk : fl_k h k = (1, a)) (h1 : a < 12) (h2 : b < (fl_cl0 a).2.2) (h3 : (fl_ft a)[b]? = some t) (h4 : fl_t p9 (.fieldLink (fl_y mid).cls i ((fl_cl0 a).2.1 b).1 ((fl_cl0 a).2.1 b).2.1 ((fl_cl0 a).2.1 b).2.2.1) = true) (hd : decode (fl_bytes mid) pc = .ok (.getfield i, 3))
    (kk : W p l e R s m args below meth c H locs cells slots Q (F0 m (pc + 3) ls (fl_fv w h k b t :: r.map (fl_cv w)))) : W p l e R s m args below meth c H locs cells slots Q (F0 m pc ls ((Value.ref k :: r).map (fl_cv w))) := by
  obtain ⟨hx, hb, hr, hml, hown, hts, hlk, hnm, het, hst, hEX⟩ := id hC
  obtain ⟨e1, -, -, e4, -⟩ := fl_cls a h1
  have hkn : k < h.1.1 := hR.inner (by rw [hk]; exact Nat.one_ne_zero) (by rw [hk]; exact Nat.lt_of_sub_eq_succ rfl)
  refine W.eq (g2 := F0 m pc ls (.ref (w.1 + k) :: r.map (fl_cv w))) (by rw [List.map_cons]; show F0 m pc ls (Value.ref (fl_ad w k) :: _) = _; rw [hR.ad hkn]) ?_
  exact va_get hx hb hts e4 hown hEX.1 hR.1 k (by rw [fl_ws_at hkn, fl_cell_obj hk]) e1 b h2 (hts _ (fl_t_mem h4)) (fun _ z => z) (fl_fget h3) hd kk
set_option maxHeartbeats 1000000 in
/-- a field of an object is written -/
theorem fl_putf (hC : fl_Cx l D G w Ls xs mid p s m args meth c) (hR : fl_R D G w Ls xs h H) (hS : va_S (fl_Af w) s.heap H locs) {i k a b t p9 : Nat} {h' : fl_H} {v : Value} {ty : FieldType} {r : List Value} (hk : fl_k h k = (1, a)) (h1 : a < 12) (h2 : b < (fl_cl0 a).2.2) (h3 : (fl_ft a)[b]? = some t) (h4 : fl_t p9 (.fieldLink (fl_y mid).cls i ((fl_cl0 a).2.1 b).1 ((fl_cl0 a).2.1 b).2.1 ((fl_cl0 a).2.1 b).2.2.1) = true)
    (h5 : (match ((fl_cl0 a).2.1 b).2.2.2 with
      | true => decide ((fl_y mid).name = "<init>") && decide (((fl_cl0 a).2.1 b).1 = (fl_y mid).cls)
      | false => true) = true) (hty : parseFieldDescriptor ((fl_cl0 a).2.1 b).2.2.1 = some ty) (hn : narrow ty v = v) (hf : fits ty v = true) (hd : decode (fl_bytes mid) pc = .ok (.putfield i, 3))
    (g1 : h'.1 = h.1) (g2 : fl_k h' = fl_k h) (g3 : ∀ j, j ≠ k → fl_i h' j = fl_i h j) (g4 : ∀ j, j ≠ k → fl_l h' j = fl_l h j) (g5 : ∀ j, j ≠ k → fl_r h' j = fl_r h j) (g6 : fl_fv w h' k b t = v) (g7 : ∀ j u, j ≠ b → fl_fv w h' k j u = fl_fv w h k j u)
    (kk : ∀ (H1 : Heap) (locs1 : List Loc), fl_R D G w Ls xs h' H1 → va_S (fl_Af w) s.heap H1 locs1 → W p l e R s m args below meth c H1 locs1 cells slots Q (F0 m (pc + 3) ls (r.map (fl_cv w)))) : W p l e R s m args below meth c H locs cells slots Q (F0 m pc ls (v :: .ref (fl_ad w k) :: r.map (fl_cv w))) := by
  obtain ⟨hx, hb, hr, hml, hown, hts, hlk, hnm, het, hst, hEX⟩ := id hC
  obtain ⟨e1, ⟨ty0, e2⟩, e3, e4, e5⟩ := fl_cls a h1
  have hkn : k < h.1.1 := hR.inner (by rw [hk]; exact Nat.one_ne_zero) (by rw [hk]; exact Nat.lt_of_sub_eq_succ rfl)
  rw [hR.ad hkn]
  have hcell : fl_cell G w h' k = .inr (a, (fl_fs w h k (fl_ft a) 0).set b v) := by
    rw [fl_cell_obj (by rw [g2]; exact hk), fl_fset h3 g6 g7]
  have hl : b < (fl_fs w h k (fl_ft a) 0).length := by rw [fl_fs_len, e5]; exact h2
  cases hfin : ((fl_cl0 a).2.1 b).2.2.2 with
  | false =>
    refine va_put hx hb hts e4 ty0 e2 e3 hown hEX.1 hR.1 fl_ws_D hS k (by rw [fl_ws_at hkn, fl_cell_obj hk]) e1 b h2 (hts _ (fl_t_mem h4)) (fun _ z => z) hfin hty hn hf hl hd (fun H1 locs1 q1 q2 q3 => ?_)
    exact kk H1 locs1 (hR.upd hkn g1 g2 g3 g4 g5 hcell q1) q3
  | true =>
    rw [hfin] at h5
    simp only [Bool.and_eq_true, decide_eq_true_eq] at h5
    refine va_putF hx hb hts e4 ty0 e2 e3 hown hEX.1 hR.1 fl_ws_D hS k (by rw [fl_ws_at hkn, fl_cell_obj hk]) e1 b h2 (hts _ (fl_t_mem h4)) (fun _ z => z) hfin (hnm h5.1) h5.2 hty hn hf hl hd (fun H1 locs1 q1 q2 q3 => ?_)
    exact kk H1 locs1 (hR.upd hkn g1 g2 g3 g4 g5 hcell q1) q3
theorem fl_fv_si {w : fl_V} {h : fl_H} {k b : Nat} {v : Int32} {j u : Nat} (hj : j ≠ b) : fl_fv w (fl_si h k b v) k j u = fl_fv w h k j u := by
  unfold fl_fv
  split
  · rfl
  · rfl
  · show Value.int (fl_u h.2.2.2.1 k b v k j) = _
    rw [fl_u_self]; dsimp only; rw [if_neg hj]
    rfl
theorem fl_fv_sl {w : fl_V} {h : fl_H} {k b : Nat} {v : Int64} {j u : Nat} (hj : j ≠ b) : fl_fv w (fl_sl h k b v) k j u = fl_fv w h k j u := by
  unfold fl_fv
  split
  · show Value.long (fl_u h.2.2.2.2 k b v k j) = _
    rw [fl_u_self]; dsimp only; rw [if_neg hj]
    rfl
  · rfl
  · rfl
theorem fl_fv_sr {w : fl_V} {h : fl_H} {k b v : Nat} {j u : Nat} (hj : j ≠ b) : fl_fv w (fl_sr h k b v) k j u = fl_fv w h k j u := by
  unfold fl_fv
  split
  · rfl
  · have e : fl_r (fl_sr h k b v) k j = fl_r h k j := by
      show fl_u h.2.2.1 k b (some v) k j = _
      rw [fl_u_self]; dsimp only; rw [if_neg hj]
      rfl
    rw [e]
  · rfl
/-- an exact heap has just its cells -/
theorem fl_size (hEX : fl_EX D G w Ls xs s s.heap) (hR : fl_R D G w Ls xs h H) (hS : va_S (fl_Af w) s.heap H locs) (hq : h.1.2.2.2 = true → s.heap.size = w.1 + k0) (hc : cells + k0 = h.1.2.1) {T : State} (hT : T.heap = H) (X : Stand p l e R s m args below meth c T locs cells slots) (hx : h.1.2.2.2 = true) : H.size = w.1 + h.1.1 := by
  have h1 := X.heapSize
  rw [hT, hq hx] at h1
  have h2 := hR.2.1 hx
  have h3 : w.1 + h.1.1 ≤ H.size := by
    cases hn : h.1.1 with
    | zero => have := hS.1; rw [hq hx] at this; omega
    | succ n =>
      have := (hR.1 n _ (fl_ws_at (by omega))).lt
      have this : w.1 + n < H.size := this
      omega
  omega
/-- the ends: an answer; a throw -/
def fl_End (D : va_G) (G : ClassId × ClassId × ClassId) (w : fl_V) (Ls : Nat) (xs : Nat → Int32) (p : Program) (l : Launch) (e : Env) (R : Room) (s : State) (m : MethodId) (args : Array Value) (below : List Frame) (meth : Method) (c : Code) (Q : State → Prop) (k0 s0 mid : Nat) (o : fl_O) : Prop :=
  ∀ (ins : Instr) (v : Option Value) (pc : Nat) (H : Heap) (locs : List Loc) (cells slots : Nat) (ls : Array Slot), decode (fl_bytes mid) pc = .ok (ins, 1) → fl_rok mid v ins → o.1 = some v → fl_R D G w Ls xs o.2 H → va_S (fl_Af w) s.heap H locs → cells + k0 = o.2.1.2.1 → slots + s0 = o.2.1.2.2.1 → W p l e R s m args below meth c H locs cells slots Q (F0 m pc ls (v.toList.map (fl_cv w)))
def fl_Thr (D : va_G) (G : ClassId × ClassId × ClassId) (w : fl_V) (Ls : Nat) (xs : Nat → Int32) (p : Program) (l : Launch) (e : Env) (R : Room) (s : State) (m : MethodId) (args : Array Value) (below : List Frame) (meth : Method) (c : Code) (Q : State → Prop) (k0 s0 mid : Nat) (o : fl_O) : Prop :=
  ∀ (ik pc : Nat) (st : List Value) (h : fl_H) (L : fl_L), fl_thok mid pc ik = true → fl_cat st ≤ 8 → o = (none, fl_th h) → fl_Wd l D G w Ls xs p e R s m args below meth c Q k0 s0 mid pc L st h
theorem fl_b01_ok {v : Int32} (h : fl_b01 v = true) : narrow .boolean (.int v) = .int v ∧ fits .boolean (.int v) = true ∧ vp_nar .boolean v = v := by
  simp only [fl_b01, Bool.or_eq_true, decide_eq_true_eq] at h
  rcases h with rfl | rfl
  · exact ⟨rfl, rfl, rfl⟩
  · exact ⟨rfl, rfl, rfl⟩
theorem fl_mk_lt {h : fl_H} {kd : Nat × Nat} {n j : Nat} (hj : j ≠ h.1.1) : fl_k (fl_mk h kd n) j = fl_k h j ∧ fl_i (fl_mk h kd n) j = fl_i h j ∧ fl_l (fl_mk h kd n) j = fl_l h j ∧ fl_r (fl_mk h kd n) j = fl_r h j := by
  refine ⟨?_, ?_, ?_, ?_⟩
  · show (if j = h.1.1 then kd else h.2.1 j) = _
    rw [if_neg hj]; rfl
  · funext i
    show (if j = h.1.1 then 0 else h.2.2.2.1 j i) = _
    rw [if_neg hj]; rfl
  · funext i
    show (if j = h.1.1 then 0 else h.2.2.2.2 j i) = _
    rw [if_neg hj]; rfl
  · funext i
    show (if j = h.1.1 then none else h.2.2.1 j i) = _
    rw [if_neg hj]; rfl
theorem fl_mk_eq {h : fl_H} {kd : Nat × Nat} {n : Nat} : fl_k (fl_mk h kd n) h.1.1 = kd ∧ fl_i (fl_mk h kd n) h.1.1 = (fun _ => 0) ∧ fl_l (fl_mk h kd n) h.1.1 = (fun _ => 0) ∧ fl_r (fl_mk h kd n) h.1.1 = (fun _ => none) := by
  refine ⟨?_, ?_, ?_, ?_⟩
  · show (if h.1.1 = h.1.1 then kd else h.2.1 h.1.1) = _
    rw [if_pos rfl]
  · funext i
    show (if h.1.1 = h.1.1 then 0 else h.2.2.2.1 h.1.1 i) = _
    rw [if_pos rfl]
  · funext i
    show (if h.1.1 = h.1.1 then 0 else h.2.2.2.2 h.1.1 i) = _
    rw [if_pos rfl]
  · funext i
    show (if h.1.1 = h.1.1 then none else h.2.2.1 h.1.1 i) = _
    rw [if_pos rfl]
/-- a cell more -/
theorem fl_R.mk {h : fl_H} {H H1 : Heap} {kd : Nat × Nat} {n : Nat} {c : va_E} (hR : fl_R D G w Ls xs h H) (h1 : 0 < kd.1) (h2 : kd.1 < 5) (hn : h.1.1 < 1000000) (hz : H.size = w.1 + h.1.1) (hc : fl_cell G w (fl_mk h kd n) h.1.1 = c) (hk : ∀ q, q < H.size → H1[q]? = H[q]?) (ha : va_at D vwCl (w.1 + h.1.1, c) H1) : fl_R D G w Ls xs (fl_mk h kd n) H1 := by
  obtain ⟨r1, r2, r3, r4, r5⟩ := hR
  refine ⟨fun k q hq => ?_, fun hx => ?_, fun k hk => ?_, ?_, fun k hk => ?_⟩
  · obtain ⟨e1, e2⟩ := fl_ws_of hq
    rw [e2]
    have e1 : k < h.1.1 + 1 := e1
    by_cases e : k = h.1.1
    · subst e
      rw [hc]; exact ha
    · obtain ⟨f1, f2, f3, f4⟩ := fl_mk_lt (kd := kd) (n := n) e
      rw [fl_cell_congr f1 f2 f3 f4]
      have := r1 k _ (fl_ws_at (by omega))
      exact this.kept (hk _ this.lt)
  · show h.1.1 + 1 = h.1.2.1 + 1
    rw [r2 hx]
  · by_cases e : k = h.1.1
    · subst e
      rw [fl_mk_eq.1]
      exact ⟨h2, fun z => absurd z (by show ¬ h.1.1 + 1 ≤ h.1.1; omega)⟩
    · rw [(fl_mk_lt e).1]
      exact ⟨(r3 k hk).1, fun z => (r3 k hk).2 (by have z : h.1.1 + 1 ≤ k := z; omega)⟩
  · show h.1.1 + 1 ≤ 1048576
    omega
  · obtain ⟨f1, f2, -, -⟩ := fl_mk_lt (h := h) (kd := kd) (n := n) (j := k) (by omega)
    rw [f1, f2]
    exact r5 k hk
end FLH
end
section
section FLH
variable {l : Launch} {D : va_G} {G : ClassId × ClassId × ClassId} {w : fl_V} {Ls : Nat} {xs : Nat → Int32} {p : Program} {e : Env} {R : Room} {s : State} {m : MethodId} {args : Array Value} {below : List Frame} {meth : Method} {c : Code} {Q : State → Prop} {k0 s0 mid pc : Nat} {L : fl_L} {st : List Value} {h : fl_H} {o : fl_O}
variable {nx : Nat → fl_L → List Value → fl_H → Option fl_O} {cl : Nat → List Value → fl_H → Option fl_O}
set_option maxHeartbeats 1000000 in
set_option maxRecDepth 20000 in
theorem fl_one2 {len a b c9 d9 p9 : Nat} {x9 : Int32} {q9 : Int64} {sw : List (Int32 × Nat)} {lv : Option (List Bool)} (hC : fl_Cx l D G w Ls xs mid p s m args meth c) (nxt : ∀ pc L st h, nx pc L st h = some o → fl_Wd l D G w Ls xs p e R s m args below meth c Q k0 s0 mid pc L st h)
    (hmn : ∀ pc L st h, nx pc L st h = some o → h.1.2.1 ≤ o.2.1.2.1 ∧ h.1.2.2.1 ≤ o.2.1.2.2.1) (hRc : o.2.1.2.1 ≤ R.cells + k0) (hRs : o.2.1.2.2.1 ≤ R.slots + s0)
    (hE : fl_End D G w Ls xs p l e R s m args below meth c Q k0 s0 mid o) (hT : fl_Thr D G w Ls xs p l e R s m args below meth c Q k0 s0 mid o) : ∀ ins : Instr,
    fl_grp ins = 2 → fl_ok mid pc (ins, len, a, b, c9, d9, p9, x9, q9, sw, lv) = true → fl_phi nx cl (fl_step (ins, len, a, b, c9, d9, p9, x9, q9, sw, lv) pc L st h) = some o → fl_Wd l D G w Ls xs p e R s m args below meth c Q k0 s0 mid pc L st h := by
  intro ins hgr hok hφ H locs cells slots ls hR hS hq hc hs hL
  obtain ⟨hx, hb, hr, hml, hown, hts, hlk, hnm, het, hst, hEX⟩ := id hC
  have hw : fl_fm w := hEX.2.2.2.2.2.2.2.2.2.2.2
  have hsA : w.1 ≤ s.heap.size := hEX.2.2.2.2.2.2.2.2.2.2.1
  have hA : ∀ q, s.heap.size ≤ q → fl_Af w q := fun q z => Nat.le_trans hsA z
  have hz : ¬ (fl_phi nx cl none = some o) := fun z => by cases z
  cases ins
  case getfield i =>
    simp only [fl_ok, Bool.and_eq_true, decide_eq_true_eq] at hok
    obtain ⟨hd, h1, h2⟩ := hok
    subst h1
    match c9, h2, hφ with
    | 0, h2, hφ =>
      simp only [Bool.and_eq_true, decide_eq_true_eq] at h2
      obtain ⟨k, r, hst2, hφ⟩ := fl_r1_inv (z := fun q => fl_phi nx cl q = some o) hz hφ
      subst hst2
      obtain ⟨g1, hφ⟩ := fl_phi_ng hφ
      exact fl_getf hC hR (of_decide_eq_true g1) h2.1.1.1 h2.1.1.2 h2.1.2 h2.2 hd (nxt _ _ _ _ hφ H locs cells slots ls hR hS hq hc hs hL)
    | 3, h2, hφ =>
      simp only [Bool.and_eq_true, decide_eq_true_eq] at h2
      obtain ⟨k, r, hst2, hφ⟩ := fl_r1_inv (z := fun q => fl_phi nx cl q = some o) hz hφ
      subst hst2
      obtain ⟨g1, hφ⟩ := fl_phi_ng hφ
      exact fl_getf hC hR (of_decide_eq_true g1) h2.1.1.1 h2.1.1.2 h2.1.2 h2.2 hd (nxt _ _ _ _ hφ H locs cells slots ls hR hS hq hc hs hL)
    | 1, h2, hφ =>
      simp only [Bool.and_eq_true, decide_eq_true_eq] at h2
      obtain ⟨k, r, hst2, hφ⟩ := fl_r1_inv (z := fun q => fl_phi nx cl q = some o) hz hφ
      subst hst2
      obtain ⟨g1, hφ⟩ := fl_phi_ng hφ
      exact fl_getf hC hR (of_decide_eq_true g1) h2.1.1.1 h2.1.1.2 h2.1.2 h2.2 hd (nxt _ _ _ _ hφ H locs cells slots ls hR hS hq hc hs hL)
    | 2, h2, hφ =>
      simp only [Bool.and_eq_true, decide_eq_true_eq] at h2
      obtain ⟨k, r, hst2, hφ⟩ := fl_r1_inv (z := fun q => fl_phi nx cl q = some o) hz hφ
      subst hst2
      obtain ⟨g1, hφ⟩ := fl_phi_ng hφ
      simp only [Bool.and_eq_true, decide_eq_true_eq] at g1
      refine fl_getf hC hR g1.1 h2.1.1.1 h2.1.1.2 h2.1.2 h2.2 hd ?_
      have e1 : fl_fv w h k b 2 = .ref (fl_ad w ((fl_r h k b).getD 0)) := by
        obtain ⟨q, hq2⟩ := Option.isSome_iff_exists.mp g1.2
        unfold fl_fv
        rw [hq2]; rfl
      rw [e1]
      exact nxt _ _ _ _ hφ H locs cells slots ls hR hS hq hc hs hL
    | 7, h2, hφ =>
      obtain ⟨k, r, hst2, hφ⟩ := fl_r1_inv (z := fun q => fl_phi nx cl q = some o) hz hφ
      subst hst2
      obtain ⟨g1, hφ⟩ := fl_phi_ng hφ
      have g1 := of_decide_eq_true g1
      rcases hR.outer (by rw [g1]; exact Nat.le_of_ble_eq_true rfl) with ⟨k1, k2, k3⟩ | ⟨-, -, k3, -⟩ | ⟨-, k3, -⟩
      · have a1 : fl_ad w k = w.2.1 (k - 1048576) := by
          unfold fl_ad; rw [if_neg (by omega), if_pos (by omega)]
        have a2 : fl_ad w (k + 16) = w.2.2.1 (k - 1048576) := by
          unfold fl_ad; rw [if_neg (by omega), if_neg (by omega), if_pos (by omega), show k + 16 - 1048592 = k - 1048576 by omega]
        refine W.eq (g2 := F0 m pc ls (.ref (w.2.1 (k - 1048576)) :: r.map (fl_cv w))) (by rw [List.map_cons]; show F0 m pc ls (Value.ref (fl_ad w k) :: _) = _; rw [a1]) ?_
        refine vk_getf hx hb (hEX.2.2.2.1.1 (k - 1048576) (by omega)).2.2.1 hS hown (hts _ (fl_t_mem h2)) (fun _ z => z) hd ?_
        rw [← a2]
        exact nxt _ _ _ _ hφ H locs cells slots ls hR hS hq hc hs hL
      · rw [k3] at g1; exact absurd g1 (by show ¬ 5 = 7; decide)
      · rw [k3] at g1; exact absurd g1 (by show ¬ 6 = 7; decide)
    | 8, h2, hφ =>
      obtain ⟨k, r, hst2, hφ⟩ := fl_r1_inv (z := fun q => fl_phi nx cl q = some o) hz hφ
      subst hst2
      obtain ⟨g1, hφ⟩ := fl_phi_ng hφ
      have g1 := of_decide_eq_true g1
      rcases hR.outer (by rw [g1]; exact Nat.le_of_ble_eq_true rfl) with ⟨k1, k2, k3⟩ | ⟨-, -, k3, -⟩ | ⟨-, k3, -⟩
      · have a1 : fl_ad w k = w.2.1 (k - 1048576) := by
          unfold fl_ad; rw [if_neg (by omega), if_pos (by omega)]
        refine W.eq (g2 := F0 m pc ls (.ref (w.2.1 (k - 1048576)) :: r.map (fl_cv w))) (by rw [List.map_cons]; show F0 m pc ls (Value.ref (fl_ad w k) :: _) = _; rw [a1]) ?_
        refine vk_getf hx hb (hEX.2.2.2.1.1 (k - 1048576) (by omega)).2.1 hS hown (hts _ (fl_t_mem h2)) (fun _ z => z) hd ?_
        exact nxt _ _ _ _ hφ H locs cells slots ls hR hS hq hc hs hL
      · rw [k3] at g1; exact absurd g1 (by show ¬ 5 = 7; decide)
      · rw [k3] at g1; exact absurd g1 (by show ¬ 6 = 7; decide)
    | 4, h2, hφ => cases hφ
    | 5, h2, hφ => cases hφ
    | 6, h2, hφ => cases hφ
    | n + 9, h2, hφ => cases hφ
  case getstatic i =>
    simp only [fl_ok, Bool.and_eq_true, decide_eq_true_eq] at hok
    obtain ⟨hd, h1, h2⟩ := hok
    subst h1
    match c9, h2, hφ with
    | 0, h2, hφ =>
      simp only [Bool.and_eq_true, decide_eq_true_eq] at h2
      refine va_gets hx hb hEX.2.2.2.2.1 hS hown (hts _ (fl_t_mem h2.2)) (fun _ z => z) hd ?_
      have := nxt _ _ _ _ (fl_phi_nx hφ) H locs cells slots ls hR hS hq hc hs hL
      rw [h2.1] at this
      exact this
    | 1, h2, hφ => exact va_gets hx hb hEX.2.2.2.2.2.1 hS hown (hts _ (fl_t_mem h2)) (fun _ z => z) hd (nxt _ _ _ _ (fl_phi_nx hφ) H locs cells slots ls hR hS hq hc hs hL)
    | n + 2, h2, hφ => cases hφ
  all_goals (simp [fl_grp] at hgr)
end FLH
end
section
section FLH
variable {l : Launch} {D : va_G} {G : ClassId × ClassId × ClassId} {w : fl_V} {Ls : Nat} {xs : Nat → Int32} {p : Program} {e : Env} {R : Room} {s : State} {m : MethodId} {args : Array Value} {below : List Frame} {meth : Method} {c : Code} {Q : State → Prop} {k0 s0 mid pc : Nat} {L : fl_L} {st : List Value} {h : fl_H} {o : fl_O}
variable {nx : Nat → fl_L → List Value → fl_H → Option fl_O} {cl : Nat → List Value → fl_H → Option fl_O}
set_option maxHeartbeats 1000000 in
set_option maxRecDepth 20000 in
theorem fl_one4 {len a b c9 d9 p9 : Nat} {x9 : Int32} {q9 : Int64} {sw : List (Int32 × Nat)} {lv : Option (List Bool)} (hC : fl_Cx l D G w Ls xs mid p s m args meth c) (nxt : ∀ pc L st h, nx pc L st h = some o → fl_Wd l D G w Ls xs p e R s m args below meth c Q k0 s0 mid pc L st h)
    (hmn : ∀ pc L st h, nx pc L st h = some o → h.1.2.1 ≤ o.2.1.2.1 ∧ h.1.2.2.1 ≤ o.2.1.2.2.1) (hRc : o.2.1.2.1 ≤ R.cells + k0) (hRs : o.2.1.2.2.1 ≤ R.slots + s0)
    (hE : fl_End D G w Ls xs p l e R s m args below meth c Q k0 s0 mid o) (hT : fl_Thr D G w Ls xs p l e R s m args below meth c Q k0 s0 mid o) : ∀ ins : Instr,
    fl_grp ins = 4 → fl_ok mid pc (ins, len, a, b, c9, d9, p9, x9, q9, sw, lv) = true → fl_phi nx cl (fl_step (ins, len, a, b, c9, d9, p9, x9, q9, sw, lv) pc L st h) = some o → fl_Wd l D G w Ls xs p e R s m args below meth c Q k0 s0 mid pc L st h := by
  intro ins hgr hok hφ H locs cells slots ls hR hS hq hc hs hL
  obtain ⟨hx, hb, hr, hml, hown, hts, hlk, hnm, het, hst, hEX⟩ := id hC
  have hw : fl_fm w := hEX.2.2.2.2.2.2.2.2.2.2.2
  have hsA : w.1 ≤ s.heap.size := hEX.2.2.2.2.2.2.2.2.2.2.1
  have hA : ∀ q, s.heap.size ≤ q → fl_Af w q := fun q z => Nat.le_trans hsA z
  have hz : ¬ (fl_phi nx cl none = some o) := fun z => by cases z
  cases ins
  case putfield i =>
    simp only [fl_ok, Bool.and_eq_true, decide_eq_true_eq] at hok
    obtain ⟨hd, ⟨⟨⟨⟨⟨h1, h2⟩, h3⟩, h4⟩, h5⟩, h6⟩, h7⟩ := hok
    subst h1
    match c9, h4, h7, hφ with
    | 0, h4, h7, hφ =>
      match st, hφ with
      | .int v :: .ref k :: r, hφ =>
        obtain ⟨g1, hφ⟩ := fl_phi_ng hφ
        refine fl_putf (v := .int v) (h' := fl_si h k b v) (ty := .int) hC hR hS (of_decide_eq_true g1) h2 h3 h4 h5 h6 (of_decide_eq_true h7) rfl rfl hd rfl rfl (fun j hj => fl_u_ne _ _ _ hj) (fun _ _ => rfl) (fun _ _ => rfl) (by show Value.int (fl_u h.2.2.2.1 k b v k b) = _; rw [fl_u_self]; dsimp only; rw [if_pos rfl]) (fun j u hj => fl_fv_si hj) (fun H1 locs1 q1 q2 => ?_)
        exact nxt _ _ _ _ hφ H1 locs1 cells slots ls q1 q2 hq hc hs hL
    | 3, h4, h7, hφ =>
      match st, hφ with
      | .int v :: .ref k :: r, hφ =>
        obtain ⟨g1, hφ⟩ := fl_phi_ng hφ
        simp only [Bool.and_eq_true, decide_eq_true_eq] at g1
        obtain ⟨n1, n2, -⟩ := fl_b01_ok g1.2
        refine fl_putf (v := .int v) (h' := fl_si h k b v) (ty := .boolean) hC hR hS g1.1 h2 h3 h4 h5 h6 (of_decide_eq_true h7) n1 n2 hd rfl rfl (fun j hj => fl_u_ne _ _ _ hj) (fun _ _ => rfl) (fun _ _ => rfl) (by show Value.int (fl_u h.2.2.2.1 k b v k b) = _; rw [fl_u_self]; dsimp only; rw [if_pos rfl]) (fun j u hj => fl_fv_si hj) (fun H1 locs1 q1 q2 => ?_)
        exact nxt _ _ _ _ hφ H1 locs1 cells slots ls q1 q2 hq hc hs hL
    | 1, h4, h7, hφ =>
      obtain ⟨k, v, r, hst2, hφ⟩ := fl_rl_inv (z := fun q => fl_phi nx cl q = some o) hz hφ
      subst hst2
      obtain ⟨g1, hφ⟩ := fl_phi_ng hφ
      refine fl_putf (v := .long v) (h' := fl_sl h k b v) (ty := .long) hC hR hS (of_decide_eq_true g1) h2 h3 h4 h5 h6 (of_decide_eq_true h7) rfl rfl hd rfl rfl (fun _ _ => rfl) (fun j hj => fl_u_ne _ _ _ hj) (fun _ _ => rfl) (by show Value.long (fl_u h.2.2.2.2 k b v k b) = _; rw [fl_u_self]; dsimp only; rw [if_pos rfl]) (fun j u hj => fl_fv_sl hj) (fun H1 locs1 q1 q2 => ?_)
      exact nxt _ _ _ _ hφ H1 locs1 cells slots ls q1 q2 hq hc hs hL
    | 2, h4, h7, hφ =>
      obtain ⟨k, v, r, hst2, hφ⟩ := fl_rr_inv (z := fun q => fl_phi nx cl q = some o) hz hφ
      subst hst2
      obtain ⟨g1, hφ⟩ := fl_phi_ng hφ
      simp only [Bool.and_eq_true, decide_eq_true_eq] at g1
      have hvv : fl_fv w (fl_sr h k b v) k b 2 = .ref (fl_ad w v) := by
        have e : fl_r (fl_sr h k b v) k b = some v := by
          show fl_u h.2.2.1 k b (some v) k b = _
          rw [fl_u_self]; dsimp only; rw [if_pos rfl]
        unfold fl_fv
        rw [e]; rfl
      have hgo : ∀ ty, parseFieldDescriptor ((fl_cl0 a).2.1 b).2.2.1 = some ty → narrow ty (.ref (fl_ad w v)) = .ref (fl_ad w v) → fits ty (.ref (fl_ad w v)) = true → W p l e R s m args below meth c H locs cells slots Q (F0 m pc ls ((Value.ref v :: Value.ref k :: r).map (fl_cv w))) := by
        intro ty t1 t2 t3
        refine fl_putf (v := .ref (fl_ad w v)) (h' := fl_sr h k b v) (ty := ty) hC hR hS g1.1 h2 h3 h4 h5 h6 t1 t2 t3 hd rfl rfl (fun _ _ => rfl) (fun _ _ => rfl) (fun j hj => fl_u_ne _ _ _ hj) hvv (fun j u hj => fl_fv_sr hj) (fun H1 locs1 q1 q2 => ?_)
        exact nxt _ _ _ _ hφ H1 locs1 cells slots ls q1 q2 hq hc hs hL
      have h7 : fl_isref (parseFieldDescriptor ((fl_cl0 a).2.1 b).2.2.1) = true := h7
      cases hty : parseFieldDescriptor ((fl_cl0 a).2.1 b).2.2.1 with
      | none => rw [hty] at h7; cases h7
      | some ty =>
        rw [hty] at h7
        cases ty with
        | object n => exact hgo _ hty rfl rfl
        | array t => exact hgo _ hty rfl rfl
        | _ => cases h7
    | n + 4, h4, h7, hφ => cases hφ
  all_goals (simp [fl_grp] at hgr)
end FLH
end
section
section FLH
variable {l : Launch} {D : va_G} {G : ClassId × ClassId × ClassId} {w : fl_V} {Ls : Nat} {xs : Nat → Int32} {p : Program} {e : Env} {R : Room} {s : State} {m : MethodId} {args : Array Value} {below : List Frame} {meth : Method} {c : Code} {Q : State → Prop} {k0 s0 mid pc : Nat} {L : fl_L} {st : List Value} {h : fl_H} {o : fl_O}
variable {nx : Nat → fl_L → List Value → fl_H → Option fl_O} {cl : Nat → List Value → fl_H → Option fl_O}
set_option maxHeartbeats 1000000 in
set_option maxRecDepth 20000 in
theorem fl_one5 {len a b c9 d9 p9 : Nat} {x9 : Int32} {q9 : Int64} {sw : List (Int32 × Nat)} {lv : Option (List Bool)} (hC : fl_Cx l D G w Ls xs mid p s m args meth c) (nxt : ∀ pc L st h, nx pc L st h = some o → fl_Wd l D G w Ls xs p e R s m args below meth c Q k0 s0 mid pc L st h)
    (hmn : ∀ pc L st h, nx pc L st h = some o → h.1.2.1 ≤ o.2.1.2.1 ∧ h.1.2.2.1 ≤ o.2.1.2.2.1) (hRc : o.2.1.2.1 ≤ R.cells + k0) (hRs : o.2.1.2.2.1 ≤ R.slots + s0)
    (hE : fl_End D G w Ls xs p l e R s m args below meth c Q k0 s0 mid o) (hT : fl_Thr D G w Ls xs p l e R s m args below meth c Q k0 s0 mid o) : ∀ ins : Instr,
    fl_grp ins = 5 → fl_ok mid pc (ins, len, a, b, c9, d9, p9, x9, q9, sw, lv) = true → fl_phi nx cl (fl_step (ins, len, a, b, c9, d9, p9, x9, q9, sw, lv) pc L st h) = some o → fl_Wd l D G w Ls xs p e R s m args below meth c Q k0 s0 mid pc L st h := by
  intro ins hgr hok hφ H locs cells slots ls hR hS hq hc hs hL
  obtain ⟨hx, hb, hr, hml, hown, hts, hlk, hnm, het, hst, hEX⟩ := id hC
  have hw : fl_fm w := hEX.2.2.2.2.2.2.2.2.2.2.2
  have hsA : w.1 ≤ s.heap.size := hEX.2.2.2.2.2.2.2.2.2.2.1
  have hA : ∀ q, s.heap.size ≤ q → fl_Af w q := fun q z => Nat.le_trans hsA z
  have hz : ¬ (fl_phi nx cl none = some o) := fun z => by cases z
  cases ins
  case arraylength =>
    simp only [fl_ok, Bool.and_eq_true, decide_eq_true_eq] at hok
    obtain ⟨hd, ⟨h1, h2⟩, h3⟩ := hok
    subst h1
    obtain ⟨k, r, hst2, hφ⟩ := fl_r1_inv (z := fun q => fl_phi nx cl q = some o) hz hφ
    subst hst2
    obtain ⟨g1, hφ⟩ := fl_phi_ng hφ
    have g1 := of_decide_eq_true g1
    have kk := nxt _ _ _ _ hφ H locs cells slots ls hR hS hq hc hs hL
    obtain ⟨n, hkd⟩ : ∃ n, fl_k h k = (a, n) := ⟨(fl_k h k).2, by rw [← g1]⟩
    rw [hkd] at kk
    by_cases h5 : a < 5
    · have hkn : k < h.1.1 := hR.inner (by rw [hkd]; show a ≠ 0; omega) (by rw [hkd]; exact h5)
      refine W.eq (g2 := F0 m pc ls (.ref (w.1 + k) :: r.map (fl_cv w))) (by rw [List.map_cons]; show F0 m pc ls (Value.ref (fl_ad w k) :: _) = _; rw [hR.ad hkn]) ?_
      match a, h2, h5, hkd with
      | 2, _, _, hkd => exact va_alen (x := (n, .inl (fl_i h k))) (v := Int32.ofNat n) hx hb hEX.1 hR.1 k 0 (by rw [fl_ws_at hkn, fl_cell_int hkd]) rfl rfl hd kk
      | 3, _, _, hkd => exact va_alen (x := (n, .inr (.inl (fl_l h k)))) (v := Int32.ofNat n) hx hb hEX.1 hR.1 k 1 (by rw [fl_ws_at hkn, fl_cell_long hkd]) rfl rfl hd kk
      | 4, _, _, hkd => exact va_alen (x := (n, .inl (fl_i h k))) (v := Int32.ofNat n) hx hb hEX.1 hR.1 k 2 (by rw [fl_ws_at hkn, fl_cell_bool hkd]) rfl rfl hd kk
    · rcases hR.outer (k := k) (by rw [hkd]; show 5 ≤ a; omega) with ⟨k1, k2, k3⟩ | ⟨k1, k2, k3, -⟩ | ⟨k1, k3, -⟩
      · obtain ⟨z1, z2⟩ := Prod.mk.inj (hkd.symm.trans k3)
        omega
      · obtain ⟨z1, z2⟩ := Prod.mk.inj (hkd.symm.trans k3)
        have a1 : fl_ad w k = w.2.2.1 (k - 1048592) := by
          unfold fl_ad; rw [if_neg (by omega), if_neg (by omega), if_pos (by omega)]
        refine W.eq (g2 := F0 m pc ls (.ref (w.2.2.1 (k - 1048592)) :: r.map (fl_cv w))) (by rw [List.map_cons]; show F0 m pc ls (Value.ref (fl_ad w k) :: _) = _; rw [a1]) ?_
        exact va_tlen (v := Int32.ofNat n) hx hb (hEX.2.2.2.1.1 (k - 1048592) (by omega)).2.2.2 hS (by rw [z2]) hd kk
      · obtain ⟨z1, z2⟩ := Prod.mk.inj (hkd.symm.trans k3)
        subst k1
        subst z2
        exact va_slen hx hb hEX.2.2.2.2.2.2.2.2.1 (Nat.lt_of_lt_of_le hEX.2.2.2.2.2.2.2.2.2.1 hsA) (Nat.not_le.mpr hEX.2.2.2.2.2.2.2.2.2.1) hS hd kk
  case iaload =>
    simp only [fl_ok, Bool.and_eq_true, Bool.or_eq_true, decide_eq_true_eq] at hok
    obtain ⟨hd, h1, h2⟩ := hok
    subst h1
    obtain ⟨k, i, r, hst2, hφ⟩ := fl_ri_inv (z := fun q => fl_phi nx cl q = some o) hz hφ
    subst hst2
    obtain ⟨g1, hφ⟩ := fl_phi_ng hφ
    simp only [Bool.and_eq_true, decide_eq_true_eq] at g1
    have g2 := fl_in_vp g1.2
    have kk := nxt _ _ _ _ hφ H locs cells slots ls hR hS hq hc hs hL
    obtain ⟨n, hkd⟩ : ∃ n, fl_k h k = (a, n) := ⟨(fl_k h k).2, by rw [← g1.1]⟩
    rw [hkd] at g2
    rcases h2 with rfl | rfl
    · have hkn : k < h.1.1 := hR.inner (by rw [hkd]; show 2 ≠ 0; decide) (by rw [hkd]; show 2 < 5; decide)
      refine W.eq (g2 := F0 m pc ls (.int i :: .ref (w.1 + k) :: r.map (fl_cv w))) (by rw [List.map_cons, List.map_cons]; show F0 m pc ls (_ :: Value.ref (fl_ad w k) :: _) = _; rw [hR.ad hkn]; rfl) ?_
      exact va_iald hx hb hEX.1 hR.1 k 0 (by rw [fl_ws_at hkn, fl_cell_int hkd]) rfl g2 hd kk
    · rcases hR.outer (k := k) (by rw [hkd]; show 5 ≤ 6; decide) with ⟨k1, k2, k3⟩ | ⟨k1, k2, k3, -⟩ | ⟨k1, k3, k4⟩
      · exact absurd (Prod.mk.inj (hkd.symm.trans k3)).1 (by decide)
      · exact absurd (Prod.mk.inj (hkd.symm.trans k3)).1 (by decide)
      · obtain ⟨z1, z2⟩ := Prod.mk.inj (hkd.symm.trans k3)
        subst k1
        subst z2
        rw [k4] at kk
        exact va_sld hx hb hEX.2.2.2.2.2.2.2.2.1 (Nat.lt_of_lt_of_le hEX.2.2.2.2.2.2.2.2.2.1 hsA) (Nat.not_le.mpr hEX.2.2.2.2.2.2.2.2.2.1) hS g2 hd kk
  case baload =>
    simp only [fl_ok, Bool.and_eq_true, Bool.or_eq_true, decide_eq_true_eq] at hok
    obtain ⟨hd, h1, h2⟩ := hok
    subst h1
    obtain ⟨k, i, r, hst2, hφ⟩ := fl_ri_inv (z := fun q => fl_phi nx cl q = some o) hz hφ
    subst hst2
    obtain ⟨g1, hφ⟩ := fl_phi_ng hφ
    simp only [Bool.and_eq_true, decide_eq_true_eq] at g1
    have g2 := fl_in_vp g1.2
    have kk := nxt _ _ _ _ hφ H locs cells slots ls hR hS hq hc hs hL
    obtain ⟨n, hkd⟩ : ∃ n, fl_k h k = (a, n) := ⟨(fl_k h k).2, by rw [← g1.1]⟩
    rw [hkd] at g2
    rcases h2 with rfl | rfl
    · have hkn : k < h.1.1 := hR.inner (by rw [hkd]; show 4 ≠ 0; decide) (by rw [hkd]; show 4 < 5; decide)
      refine W.eq (g2 := F0 m pc ls (.int i :: .ref (w.1 + k) :: r.map (fl_cv w))) (by rw [List.map_cons, List.map_cons]; show F0 m pc ls (_ :: Value.ref (fl_ad w k) :: _) = _; rw [hR.ad hkn]; rfl) ?_
      exact va_zald hx hb hEX.1 hR.1 k 2 (by rw [fl_ws_at hkn, fl_cell_bool hkd]) rfl g2 hd kk
    · rcases hR.outer (k := k) (by rw [hkd]; show 5 ≤ 5; decide) with ⟨k1, k2, k3⟩ | ⟨k1, k2, k3, k4⟩ | ⟨k1, k3, k4⟩
      · exact absurd (Prod.mk.inj (hkd.symm.trans k3)).1 (by decide)
      · obtain ⟨z1, z2⟩ := Prod.mk.inj (hkd.symm.trans k3)
        have g2 : vp_in i (fl_slen.getD (k - 1048592) 0) := by rw [← z2]; exact g2
        have a1 : fl_ad w k = w.2.2.1 (k - 1048592) := by
          unfold fl_ad; rw [if_neg (by omega), if_neg (by omega), if_pos (by omega)]
        rw [k4] at kk
        refine W.eq (g2 := F0 m pc ls (.int i :: .ref (w.2.2.1 (k - 1048592)) :: r.map (fl_cv w))) (by rw [List.map_cons, List.map_cons]; show F0 m pc ls (_ :: Value.ref (fl_ad w k) :: _) = _; rw [a1]; rfl) ?_
        exact va_tb hx hb (hEX.2.2.2.1.1 (k - 1048592) (by omega)).2.2.2 hS g2 rfl hd kk
      · exact absurd (Prod.mk.inj (hkd.symm.trans k3)).1 (by decide)
  case laload =>
    simp only [fl_ok, Bool.and_eq_true, decide_eq_true_eq] at hok
    obtain ⟨hd, h1⟩ := hok
    subst h1
    obtain ⟨k, i, r, hst2, hφ⟩ := fl_ri_inv (z := fun q => fl_phi nx cl q = some o) hz hφ
    subst hst2
    obtain ⟨g1, hφ⟩ := fl_phi_ng hφ
    simp only [Bool.and_eq_true, decide_eq_true_eq] at g1
    have g2 := fl_in_vp g1.2
    have kk := nxt _ _ _ _ hφ H locs cells slots ls hR hS hq hc hs hL
    obtain ⟨n, hkd⟩ : ∃ n, fl_k h k = (3, n) := ⟨(fl_k h k).2, by rw [← g1.1]⟩
    rw [hkd] at g2
    have hkn : k < h.1.1 := hR.inner (by rw [hkd]; show 3 ≠ 0; decide) (by rw [hkd]; show 3 < 5; decide)
    refine W.eq (g2 := F0 m pc ls (.int i :: .ref (w.1 + k) :: r.map (fl_cv w))) (by rw [List.map_cons, List.map_cons]; show F0 m pc ls (_ :: Value.ref (fl_ad w k) :: _) = _; rw [hR.ad hkn]; rfl) ?_
    exact va_lald hx hb hEX.1 hR.1 k 1 (by rw [fl_ws_at hkn, fl_cell_long hkd]) rfl g2 hd kk
  all_goals (simp [fl_grp] at hgr)
end FLH
end
section
section FLH
variable {l : Launch} {D : va_G} {G : ClassId × ClassId × ClassId} {w : fl_V} {Ls : Nat} {xs : Nat → Int32} {p : Program} {e : Env} {R : Room} {s : State} {m : MethodId} {args : Array Value} {below : List Frame} {meth : Method} {c : Code} {Q : State → Prop} {k0 s0 mid pc : Nat} {L : fl_L} {st : List Value} {h : fl_H} {o : fl_O}
variable {nx : Nat → fl_L → List Value → fl_H → Option fl_O} {cl : Nat → List Value → fl_H → Option fl_O}
set_option maxHeartbeats 1000000 in
set_option maxRecDepth 20000 in
theorem fl_one6 {len a b c9 d9 p9 : Nat} {x9 : Int32} {q9 : Int64} {sw : List (Int32 × Nat)} {lv : Option (List Bool)} (hC : fl_Cx l D G w Ls xs mid p s m args meth c) (nxt : ∀ pc L st h, nx pc L st h = some o → fl_Wd l D G w Ls xs p e R s m args below meth c Q k0 s0 mid pc L st h)
    (hmn : ∀ pc L st h, nx pc L st h = some o → h.1.2.1 ≤ o.2.1.2.1 ∧ h.1.2.2.1 ≤ o.2.1.2.2.1) (hRc : o.2.1.2.1 ≤ R.cells + k0) (hRs : o.2.1.2.2.1 ≤ R.slots + s0)
    (hE : fl_End D G w Ls xs p l e R s m args below meth c Q k0 s0 mid o) (hT : fl_Thr D G w Ls xs p l e R s m args below meth c Q k0 s0 mid o) : ∀ ins : Instr,
    fl_grp ins = 6 → fl_ok mid pc (ins, len, a, b, c9, d9, p9, x9, q9, sw, lv) = true → fl_phi nx cl (fl_step (ins, len, a, b, c9, d9, p9, x9, q9, sw, lv) pc L st h) = some o → fl_Wd l D G w Ls xs p e R s m args below meth c Q k0 s0 mid pc L st h := by
  intro ins hgr hok hφ H locs cells slots ls hR hS hq hc hs hL
  obtain ⟨hx, hb, hr, hml, hown, hts, hlk, hnm, het, hst, hEX⟩ := id hC
  have hw : fl_fm w := hEX.2.2.2.2.2.2.2.2.2.2.2
  have hsA : w.1 ≤ s.heap.size := hEX.2.2.2.2.2.2.2.2.2.2.1
  have hA : ∀ q, s.heap.size ≤ q → fl_Af w q := fun q z => Nat.le_trans hsA z
  have hz : ¬ (fl_phi nx cl none = some o) := fun z => by cases z
  cases ins
  case iastore =>
    simp only [fl_ok, Bool.and_eq_true, decide_eq_true_eq] at hok
    obtain ⟨hd, h1⟩ := hok
    subst h1
    obtain ⟨k, i, v, r, hst2, hφ⟩ := fl_rii_inv (z := fun q => fl_phi nx cl q = some o) hz hφ
    subst hst2
    obtain ⟨g1, hφ⟩ := fl_phi_ng hφ
    simp only [Bool.and_eq_true, decide_eq_true_eq] at g1
    have g2 := fl_in_vp g1.2
    obtain ⟨n, hkd⟩ : ∃ n, fl_k h k = (2, n) := ⟨(fl_k h k).2, by rw [← g1.1]⟩
    rw [hkd] at g2
    have hkn : k < h.1.1 := hR.inner (by rw [hkd]; show 2 ≠ 0; decide) (by rw [hkd]; show 2 < 5; decide)
    refine W.eq (g2 := F0 m pc ls (.int v :: .int i :: .ref (w.1 + k) :: r.map (fl_cv w))) (by rw [List.map_cons, List.map_cons, List.map_cons]; show F0 m pc ls (_ :: _ :: Value.ref (fl_ad w k) :: _) = _; rw [hR.ad hkn]; rfl) ?_
    refine va_iast hx hb hEX.1 hR.1 fl_ws_D hS k 0 (by rw [fl_ws_at hkn, fl_cell_int hkd]) rfl g2 hd (fun H1 locs1 q1 q2 q3 => ?_)
    exact nxt _ _ _ _ hφ H1 locs1 cells slots ls (hR.upd hkn rfl rfl (fun j hj => fl_u_ne _ _ _ hj) (fun _ _ => rfl) (fun _ _ => rfl) (by rw [fl_cell_int (by exact hkd)]; rw [show fl_i (fl_si h k i.toNatClampNeg v) k = upd (fl_i h k) i.toNatClampNeg v from fl_u_self _ _ _ _]) q1) q3 hq hc hs hL
  case bastore =>
    simp only [fl_ok, Bool.and_eq_true, decide_eq_true_eq] at hok
    obtain ⟨hd, h1⟩ := hok
    subst h1
    obtain ⟨k, i, v, r, hst2, hφ⟩ := fl_rii_inv (z := fun q => fl_phi nx cl q = some o) hz hφ
    subst hst2
    obtain ⟨g1, hφ⟩ := fl_phi_ng hφ
    simp only [Bool.and_eq_true, decide_eq_true_eq] at g1
    have g2 := fl_in_vp g1.1.2
    obtain ⟨-, -, g3⟩ := fl_b01_ok g1.2
    obtain ⟨n, hkd⟩ : ∃ n, fl_k h k = (4, n) := ⟨(fl_k h k).2, by rw [← g1.1.1]⟩
    rw [hkd] at g2
    have hkn : k < h.1.1 := hR.inner (by rw [hkd]; show 4 ≠ 0; decide) (by rw [hkd]; show 4 < 5; decide)
    refine W.eq (g2 := F0 m pc ls (.int v :: .int i :: .ref (w.1 + k) :: r.map (fl_cv w))) (by rw [List.map_cons, List.map_cons, List.map_cons]; show F0 m pc ls (_ :: _ :: Value.ref (fl_ad w k) :: _) = _; rw [hR.ad hkn]; rfl) ?_
    refine va_zast hx hb hEX.1 hR.1 fl_ws_D hS k 2 (by rw [fl_ws_at hkn, fl_cell_bool hkd]) rfl g2 hd (fun H1 locs1 q1 q2 q3 => ?_)
    rw [g3] at q1
    exact nxt _ _ _ _ hφ H1 locs1 cells slots ls (hR.upd hkn rfl rfl (fun j hj => fl_u_ne _ _ _ hj) (fun _ _ => rfl) (fun _ _ => rfl) (by rw [fl_cell_bool (by exact hkd)]; rw [show fl_i (fl_si h k i.toNatClampNeg v) k = upd (fl_i h k) i.toNatClampNeg v from fl_u_self _ _ _ _]) q1) q3 hq hc hs hL
  case lastore =>
    simp only [fl_ok, Bool.and_eq_true, decide_eq_true_eq] at hok
    obtain ⟨hd, h1⟩ := hok
    subst h1
    obtain ⟨k, i, v, r, hst2, hφ⟩ := fl_ril_inv (z := fun q => fl_phi nx cl q = some o) hz hφ
    subst hst2
    obtain ⟨g1, hφ⟩ := fl_phi_ng hφ
    simp only [Bool.and_eq_true, decide_eq_true_eq] at g1
    have g2 := fl_in_vp g1.2
    obtain ⟨n, hkd⟩ : ∃ n, fl_k h k = (3, n) := ⟨(fl_k h k).2, by rw [← g1.1]⟩
    rw [hkd] at g2
    have hkn : k < h.1.1 := hR.inner (by rw [hkd]; show 3 ≠ 0; decide) (by rw [hkd]; show 3 < 5; decide)
    refine W.eq (g2 := F0 m pc ls (.long v :: .int i :: .ref (w.1 + k) :: r.map (fl_cv w))) (by rw [List.map_cons, List.map_cons, List.map_cons]; show F0 m pc ls (_ :: _ :: Value.ref (fl_ad w k) :: _) = _; rw [hR.ad hkn]; rfl) ?_
    refine va_last hx hb hEX.1 hR.1 fl_ws_D hS k 1 (by rw [fl_ws_at hkn, fl_cell_long hkd]) rfl g2 hd (fun H1 locs1 q1 q2 q3 => ?_)
    exact nxt _ _ _ _ hφ H1 locs1 cells slots ls (hR.upd hkn rfl rfl (fun _ _ => rfl) (fun j hj => fl_u_ne _ _ _ hj) (fun _ _ => rfl) (by rw [fl_cell_long (by exact hkd)]; rw [show fl_l (fl_sl h k i.toNatClampNeg v) k = vp_updL (fl_l h k) i.toNatClampNeg v from fl_u_self _ _ _ _]) q1) q3 hq hc hs hL
  all_goals (simp [fl_grp] at hgr)
end FLH
end
section
section FLH
variable {l : Launch} {D : va_G} {G : ClassId × ClassId × ClassId} {w : fl_V} {Ls : Nat} {xs : Nat → Int32} {p : Program} {e : Env} {R : Room} {s : State} {m : MethodId} {args : Array Value} {below : List Frame} {meth : Method} {c : Code} {Q : State → Prop} {k0 s0 mid pc : Nat} {L : fl_L} {st : List Value} {h : fl_H} {o : fl_O}
variable {nx : Nat → fl_L → List Value → fl_H → Option fl_O} {cl : Nat → List Value → fl_H → Option fl_O}
set_option maxHeartbeats 1000000 in
set_option maxRecDepth 20000 in
theorem fl_one7 {len a b c9 d9 p9 : Nat} {x9 : Int32} {q9 : Int64} {sw : List (Int32 × Nat)} {lv : Option (List Bool)} (hC : fl_Cx l D G w Ls xs mid p s m args meth c) (nxt : ∀ pc L st h, nx pc L st h = some o → fl_Wd l D G w Ls xs p e R s m args below meth c Q k0 s0 mid pc L st h)
    (hmn : ∀ pc L st h, nx pc L st h = some o → h.1.2.1 ≤ o.2.1.2.1 ∧ h.1.2.2.1 ≤ o.2.1.2.2.1) (hRc : o.2.1.2.1 ≤ R.cells + k0) (hRs : o.2.1.2.2.1 ≤ R.slots + s0)
    (hE : fl_End D G w Ls xs p l e R s m args below meth c Q k0 s0 mid o) (hT : fl_Thr D G w Ls xs p l e R s m args below meth c Q k0 s0 mid o) : ∀ ins : Instr,
    fl_grp ins = 7 → fl_ok mid pc (ins, len, a, b, c9, d9, p9, x9, q9, sw, lv) = true → fl_phi nx cl (fl_step (ins, len, a, b, c9, d9, p9, x9, q9, sw, lv) pc L st h) = some o → fl_Wd l D G w Ls xs p e R s m args below meth c Q k0 s0 mid pc L st h := by
  intro ins hgr hok hφ H locs cells slots ls hR hS hq hc hs hL
  obtain ⟨hx, hb, hr, hml, hown, hts, hlk, hnm, het, hst, hEX⟩ := id hC
  have hw : fl_fm w := hEX.2.2.2.2.2.2.2.2.2.2.2
  have hsA : w.1 ≤ s.heap.size := hEX.2.2.2.2.2.2.2.2.2.2.1
  have hA : ∀ q, s.heap.size ≤ q → fl_Af w q := fun q z => Nat.le_trans hsA z
  have hz : ¬ (fl_phi nx cl none = some o) := fun z => by cases z
  cases ins
  case new i =>
    simp only [fl_ok, Bool.and_eq_true, decide_eq_true_eq] at hok
    obtain ⟨hd, h1, h2⟩ := hok
    subst h1
    match c9, h2, hφ with
    | 0, h2, hφ =>
      simp only [Bool.and_eq_true, decide_eq_true_eq] at h2
      obtain ⟨⟨⟨⟨a1, a2⟩, a3⟩, a4⟩, a5⟩ := h2
      obtain ⟨g1, hφ⟩ := fl_phi_ng hφ
      simp only [Bool.and_eq_true, decide_eq_true_eq] at g1
      obtain ⟨e1, ⟨ty0, e2⟩, e3, e4, e5⟩ := fl_cls a a1
      obtain ⟨m1, m2⟩ := hmn _ _ _ _ hφ
      have m1 : h.1.2.1 + 1 ≤ o.2.1.2.1 := m1
      have m2 : h.1.2.2.1 + b ≤ o.2.1.2.2.1 := m2
      have hKn := hEX.1.1 a _ e1
      intro T hT X
      have hsz := fl_size hEX hR hS hq hc hT X g1.1
      refine W.newcK (g := F0 m pc ls (st.map (fl_cv w))) hx hb hown (hts _ (fl_t_mem a3)) (hts _ (fl_tm_mem a4)) (hts _ (fl_tm_mem a5)) rfl hd (by omega) (by omega) hKn.2.1 hsz (fun H1 kC hkC f1 f2 f3 => ?_) T hT X
      have hcell : fl_cell G w (fl_mk h (1, a) b) h.1.1 = .inr (a, fl_fs w (fl_mk h (1, a) b) h.1.1 (fl_ft a) 0) := fl_cell_obj fl_mk_eq.1
      have hob : va_at D vwCl (w.1 + h.1.1, .inr (a, fl_fs w (fl_mk h (1, a) b) h.1.1 (fl_ft a) 0)) H1 := by
        refine ⟨_, e1, (u_born ty0 hts e4 hKn hkC f1 e2).to (fun j hj => ?_)⟩
        have hj' : j < (fl_cl0 a).2.2 := hj
        have hall := List.all_eq_true.mp (fl_cls2 a a1) j (List.mem_range.mpr hj')
        rw [e2 j hj'] at hall
        obtain ⟨t, ht⟩ : ∃ t, (fl_ft a)[j]? = some t := ⟨_, List.getElem?_eq_getElem (by rw [e5]; exact hj')⟩
        rw [ht] at hall
        have hall : defaultValue (ty0 j) = fl_dv t := of_decide_eq_true hall
        rw [hall]
        show _ = (fl_fs w (fl_mk h (1, a) b) h.1.1 (fl_ft a) 0).getD j .null
        rw [List.getD_eq_getElem?_getD, fl_fget ht, Option.getD_some]
        obtain ⟨-, q1, q2, q3⟩ := fl_mk_eq (h := h) (kd := (1, a)) (n := b)
        have key : ∀ t : Nat, fl_dv t = fl_fv w (fl_mk h (1, a) b) h.1.1 j t := by
          intro t
          unfold fl_fv
          rw [q1, q2, q3]
          match t with
          | 0 => rfl
          | 1 => rfl
          | 2 => rfl
          | _ + 3 => rfl
        exact key t
      have hR' := hR.mk (n := b) (kd := (1, a)) Nat.one_pos (by show 1 < 5; decide) g1.2 hsz hcell (fun q hq => f3 q (by rw [← hsz]; exact hq)) hob
      have hS' : va_S (fl_Af w) s.heap H1 locs := ⟨by rw [f2]; have := hS.1; omega, fun q h1 h2 => (f3 q (by have := hS.1; omega)).trans (hS.2.1 q h1 h2), hS.2.2⟩
      have := nxt _ _ _ _ hφ H1 locs (cells + 1) (slots + b) ls hR' hS' hq (by show cells + 1 + k0 = h.1.2.1 + 1; omega) (by show slots + b + s0 = h.1.2.2.1 + b; omega) hL
      rw [List.map_cons] at this
      have e9 : fl_cv w (.ref h.1.1) = .ref (w.1 + h.1.1) := by
        show Value.ref (fl_ad w h.1.1) = _
        unfold fl_ad
        rw [if_pos (by omega)]
      rw [e9] at this
      exact this
    | 1, h2, hφ =>
      obtain ⟨g1, hφ⟩ := fl_phi_dn hφ
      exact hT i pc st h L h2 (Nat.le_of_ble_eq_true g1) hφ.symm H locs cells slots ls hR hS hq hc hs hL
    | n + 2, h2, hφ => cases hφ
  all_goals (simp [fl_grp] at hgr)
end FLH
end
section
section FLH
variable {l : Launch} {D : va_G} {G : ClassId × ClassId × ClassId} {w : fl_V} {Ls : Nat} {xs : Nat → Int32} {p : Program} {e : Env} {R : Room} {s : State} {m : MethodId} {args : Array Value} {below : List Frame} {meth : Method} {c : Code} {Q : State → Prop} {k0 s0 mid pc : Nat} {L : fl_L} {st : List Value} {h : fl_H} {o : fl_O}
variable {nx : Nat → fl_L → List Value → fl_H → Option fl_O} {cl : Nat → List Value → fl_H → Option fl_O}
set_option maxHeartbeats 1000000 in
set_option maxRecDepth 20000 in
theorem fl_one8 {len a b c9 d9 p9 : Nat} {x9 : Int32} {q9 : Int64} {sw : List (Int32 × Nat)} {lv : Option (List Bool)} (hC : fl_Cx l D G w Ls xs mid p s m args meth c) (nxt : ∀ pc L st h, nx pc L st h = some o → fl_Wd l D G w Ls xs p e R s m args below meth c Q k0 s0 mid pc L st h)
    (hmn : ∀ pc L st h, nx pc L st h = some o → h.1.2.1 ≤ o.2.1.2.1 ∧ h.1.2.2.1 ≤ o.2.1.2.2.1) (hRc : o.2.1.2.1 ≤ R.cells + k0) (hRs : o.2.1.2.2.1 ≤ R.slots + s0)
    (hE : fl_End D G w Ls xs p l e R s m args below meth c Q k0 s0 mid o) (hT : fl_Thr D G w Ls xs p l e R s m args below meth c Q k0 s0 mid o) : ∀ ins : Instr,
    fl_grp ins = 8 → fl_ok mid pc (ins, len, a, b, c9, d9, p9, x9, q9, sw, lv) = true → fl_phi nx cl (fl_step (ins, len, a, b, c9, d9, p9, x9, q9, sw, lv) pc L st h) = some o → fl_Wd l D G w Ls xs p e R s m args below meth c Q k0 s0 mid pc L st h := by
  intro ins hgr hok hφ H locs cells slots ls hR hS hq hc hs hL
  obtain ⟨hx, hb, hr, hml, hown, hts, hlk, hnm, het, hst, hEX⟩ := id hC
  have hw : fl_fm w := hEX.2.2.2.2.2.2.2.2.2.2.2
  have hsA : w.1 ≤ s.heap.size := hEX.2.2.2.2.2.2.2.2.2.2.1
  have hA : ∀ q, s.heap.size ≤ q → fl_Af w q := fun q z => Nat.le_trans hsA z
  have hz : ¬ (fl_phi nx cl none = some o) := fun z => by cases z
  cases ins
  case newarray t =>
    simp only [fl_ok, Bool.and_eq_true, decide_eq_true_eq] at hok
    obtain ⟨hd, ⟨h1, h2⟩, h3⟩ := hok
    subst h1
    obtain ⟨n, r, hst2, hφ⟩ := fl_i1_inv (z := fun q => fl_phi nx cl q = some o) hz hφ
    subst hst2
    obtain ⟨g1, hφ⟩ := fl_phi_ng hφ
    simp only [Bool.and_eq_true, decide_eq_true_eq] at g1
    obtain ⟨⟨⟨g1, g2⟩, g3⟩, g4⟩ := g1
    obtain ⟨m1, m2⟩ := hmn _ _ _ _ hφ
    have m1 : h.1.2.1 + 1 ≤ o.2.1.2.1 := m1
    have m2 : h.1.2.2.1 + n.toNatClampNeg ≤ o.2.1.2.2.1 := m2
    intro T hT X
    have hsz := fl_size hEX hR hS hq hc hT X g1
    have main : ∀ (ty : FieldType) (cA : ClassId) (a0 : vp_A), newarray.typeOf t = ty → componentBytes ty ≤ 8 → (∀ cB : ClassId, s.vm.findClass ("[" ++ ty.toString) = some cB → cB = cA) → 0 < a → a < 5 → fl_cell G w (fl_mk h (a, n.toNatClampNeg) n.toNatClampNeg) h.1.1 = .inl (cA, a0) → (∀ cB, vp_cell cB a0 = arrV cB n.toNatClampNeg (fun _ => defaultValue ty)) → ∃ t, Steps p.tables e below (T.setTop (F0 m pc ls ((Value.int n :: r).map (fl_cv w)))) t ∧ Q t := by
      intro ty cA a0 t1 t2 t3 t4 t5 t6 t7
      subst t1
      refine va_newaK (g := F0 m pc ls (.int n :: r.map (fl_cv w))) hx hb (hts _ (fl_tm_mem h2)) rfl hd (N := n.toNatClampNeg) rfl g3 rfl (Nat.le_trans (Nat.mul_le_mul (Nat.le_of_lt g4) t2) (Nat.le_of_ble_eq_true rfl)) (by omega) (by omega) hsz (fun H1 cB f1 f2 f3 f4 f5 => ?_) T hT X
      have eB := t3 cB f5
      subst eB
      have hR' := hR.mk (n := n.toNatClampNeg) (kd := (a, n.toNatClampNeg)) t4 t5 g2 hsz t6 (fun q hq => f3 q (by rw [← hsz]; exact hq)) (by show H1[w.1 + h.1.1]? = some (vp_cell _ _); rw [t7]; exact f1)
      have hS' : va_S (fl_Af w) s.heap H1 locs := ⟨by rw [f2]; have := hS.1; omega, fun q h1 h2 => (f3 q (by have := hS.1; omega)).trans (hS.2.1 q h1 h2), hS.2.2⟩
      have := nxt _ _ _ _ hφ H1 locs (cells + 1) (slots + n.toNatClampNeg) ls hR' hS' hq (by show cells + 1 + k0 = h.1.2.1 + 1; omega) (by show slots + n.toNatClampNeg + s0 = h.1.2.2.1 + n.toNatClampNeg; omega) hL
      rw [List.map_cons] at this
      have e9 : fl_cv w (.ref h.1.1) = .ref (w.1 + h.1.1) := by
        show Value.ref (fl_ad w h.1.1) = _
        unfold fl_ad
        rw [if_pos (by omega)]
      rw [e9] at this
      exact this
    obtain ⟨q1, q2, q3, q4⟩ := fl_mk_eq (h := h) (kd := (a, n.toNatClampNeg)) (n := n.toNatClampNeg)
    cases t with
    | int =>
      have ea : a = 2 := of_decide_eq_true h3
      subst ea
      exact main .int G.1 _ rfl (by decide) (fun cB hB => Option.some.inj (hB.symm.trans (hEX.1.2 0 _ rfl).2)) (by decide) (by decide) (fl_cell_int q1) (fun cB => by rw [q2]; rfl)
    | long =>
      have ea : a = 3 := of_decide_eq_true h3
      subst ea
      exact main .long G.2.1 _ rfl (by decide) (fun cB hB => Option.some.inj (hB.symm.trans (hEX.1.2 1 _ rfl).2)) (by decide) (by decide) (fl_cell_long q1) (fun cB => by rw [q3]; rfl)
    | boolean =>
      have ea : a = 4 := of_decide_eq_true h3
      subst ea
      exact main .boolean G.2.2 _ rfl (by decide) (fun cB hB => Option.some.inj (hB.symm.trans (hEX.1.2 2 _ rfl).2)) (by decide) (by decide) (fl_cell_bool q1) (fun cB => by rw [q2]; rfl)
    | _ => cases h3
  all_goals (simp [fl_grp] at hgr)
end FLH
end
section
section FLH
variable {l : Launch} {D : va_G} {G : ClassId × ClassId × ClassId} {w : fl_V} {Ls : Nat} {xs : Nat → Int32} {p : Program} {e : Env} {R : Room} {s : State} {m : MethodId} {args : Array Value} {below : List Frame} {meth : Method} {c : Code} {Q : State → Prop} {k0 s0 mid pc : Nat} {L : fl_L} {st : List Value} {h : fl_H} {o : fl_O}
variable {nx : Nat → fl_L → List Value → fl_H → Option fl_O} {cl : Nat → List Value → fl_H → Option fl_O}
set_option maxHeartbeats 1000000 in
set_option maxRecDepth 20000 in
theorem fl_one9 {len a b c9 d9 p9 : Nat} {x9 : Int32} {q9 : Int64} {sw : List (Int32 × Nat)} {lv : Option (List Bool)} (hC : fl_Cx l D G w Ls xs mid p s m args meth c) (nxt : ∀ pc L st h, nx pc L st h = some o → fl_Wd l D G w Ls xs p e R s m args below meth c Q k0 s0 mid pc L st h)
    (hmn : ∀ pc L st h, nx pc L st h = some o → h.1.2.1 ≤ o.2.1.2.1 ∧ h.1.2.2.1 ≤ o.2.1.2.2.1) (hRc : o.2.1.2.1 ≤ R.cells + k0) (hRs : o.2.1.2.2.1 ≤ R.slots + s0)
    (hE : fl_End D G w Ls xs p l e R s m args below meth c Q k0 s0 mid o) (hT : fl_Thr D G w Ls xs p l e R s m args below meth c Q k0 s0 mid o) : ∀ ins : Instr,
    fl_grp ins = 9 → fl_ok mid pc (ins, len, a, b, c9, d9, p9, x9, q9, sw, lv) = true → fl_phi nx cl (fl_step (ins, len, a, b, c9, d9, p9, x9, q9, sw, lv) pc L st h) = some o → fl_Wd l D G w Ls xs p e R s m args below meth c Q k0 s0 mid pc L st h := by
  intro ins hgr hok hφ H locs cells slots ls hR hS hq hc hs hL
  obtain ⟨hx, hb, hr, hml, hown, hts, hlk, hnm, het, hst, hEX⟩ := id hC
  have hw : fl_fm w := hEX.2.2.2.2.2.2.2.2.2.2.2
  have hsA : w.1 ≤ s.heap.size := hEX.2.2.2.2.2.2.2.2.2.2.1
  have hA : ∀ q, s.heap.size ≤ q → fl_Af w q := fun q z => Nat.le_trans hsA z
  have hz : ¬ (fl_phi nx cl none = some o) := fun z => by cases z
  cases ins
  case ireturn =>
    simp only [fl_ok, Bool.and_eq_true, decide_eq_true_eq] at hok
    obtain ⟨hd, h1, h2⟩ := hok
    subst h1
    match st, hφ with
    | [.int v], hφ =>
      obtain ⟨g1, hφ⟩ := fl_phi_dn hφ
      subst hφ
      refine hE .ireturn (some (.int v)) pc H locs cells slots ls hd ?_ rfl hR hS hc hs
      rcases fl_fit_ok g1 with rfl | ⟨rfl, g2⟩ | ⟨rfl, g2⟩ | ⟨rfl, g2⟩
      · exact ⟨v, .int, rfl, of_decide_eq_true h2, rfl⟩
      · exact ⟨v, .boolean, rfl, of_decide_eq_true h2, g2⟩
      · exact ⟨v, .char, rfl, of_decide_eq_true h2, g2⟩
      · exact ⟨v, .byte, rfl, of_decide_eq_true h2, g2⟩
  case lreturn =>
    simp only [fl_ok, Bool.and_eq_true, decide_eq_true_eq] at hok
    obtain ⟨hd, h1, h2⟩ := hok
    subst h1
    match st, hφ with
    | [.long v], hφ =>
      obtain ⟨g1, hφ⟩ := fl_phi_dn hφ
      subst hφ
      exact hE .lreturn (some (.long v)) pc H locs cells slots ls hd ⟨v, rfl, h2⟩ rfl hR hS hc hs
  case return_ =>
    simp only [fl_ok, Bool.and_eq_true, decide_eq_true_eq] at hok
    obtain ⟨hd, h1, h2⟩ := hok
    subst h1
    match st, hφ with
    | [], hφ =>
      obtain ⟨g1, hφ⟩ := fl_phi_dn hφ
      subst hφ
      exact hE .return_ none pc H locs cells slots ls hd ⟨rfl, h2⟩ rfl hR hS hc hs
  all_goals (simp [fl_grp] at hgr)
end FLH
end
section
/-! CALLS of the abstract machine: what a called method keeps -/
def fl_rm (mid mc ms : Nat) : Room := { frames := mid, cells := mc, slots := ms, locals := 64 * mid }
def fl_Pc (D : va_G) (G : ClassId × ClassId × ClassId) (w : fl_V) (Ls : Nat) (xs : Nat → Int32) (as : List Value) (h : fl_H) : Array Value → State → Prop := fun a U => a = (as.map (fl_cv w)).toArray ∧ fl_R D G w Ls xs h U.heap ∧ fl_EX D G w Ls xs U U.heap ∧ (h.1.2.2.2 = true → U.heap.size = w.1 + h.1.2.1)
def fl_Qc (D : va_G) (G : ClassId × ClassId × ClassId) (w : fl_V) (Ls : Nat) (xs : Nat → Int32) (r : fl_O) : Array Value → State → Outcome → State → Prop := fun _ st oc t => (∃ v, r.1 = some v ∧ oc = .returned (v.map (fl_cv w))) ∧ fl_R D G w Ls xs r.2 t.heap ∧ va_F (fl_Af w) st t
def fl_XC (D : va_G) (G : ClassId × ClassId × ClassId) (w : fl_V) (Ls : Nat) (xs : Nat → Int32) (r : fl_O) : String → State → State → Prop := fun E st t => E = fl_nsee ∧ fl_R D G w Ls xs r.2 t.heap ∧ va_F (fl_Af w) st t
def fl_Ct (l : Launch) (D : va_G) (G : ClassId × ClassId × ClassId) (w : fl_V) (Ls : Nat) (xs : Nat → Int32) (a : Nat) (as : List Value) (h : fl_H) (r : fl_O) : Prop :=
  h.1.2.1 ≤ r.2.1.2.1 ∧ h.1.2.2.1 ≤ r.2.1.2.2.1 ∧ (r.2.1.2.2.2 = true → h.1.2.2.2 = true) ∧
  (∀ v, r.1 = some v → Met l (fl_y a) (fl_wd a) (fl_rm a (r.2.1.2.1 - h.1.2.1) (r.2.1.2.2.1 - h.1.2.2.1)) (fl_Pc D G w Ls xs as h) (fl_Qc D G w Ls xs r) (r.2.1.2.1 - h.1.2.1) (r.2.1.2.2.1 - h.1.2.2.1) (fl_Af w)) ∧
  (r.1 = none → vx_Met l (fl_y a) (fl_wd a) (fl_rm a (r.2.1.2.1 - h.1.2.1) (r.2.1.2.2.1 - h.1.2.2.1)) (fl_Pc D G w Ls xs as h) (fl_Qc D G w Ls xs r) (fl_XC D G w Ls xs r) (r.2.1.2.1 - h.1.2.1) (r.2.1.2.2.1 - h.1.2.2.1) (fl_Af w))
theorem fl_blind {D : va_G} {G : ClassId × ClassId × ClassId} {w : fl_V} {Ls : Nat} {xs : Nat → Int32} {as : List Value} {h : fl_H} : FrameBlind (fl_Pc D G w Ls xs as h) := by
  intro a U g mk hp
  obtain ⟨h1, h2, h3, h4⟩ := hp
  exact ⟨h1, h2, h3.to (State.WarmedH.refl U) (Nat.le_refl _) (fun _ _ _ => rfl), h4⟩
theorem fl_T_good : ∀ x ∈ fl_T, (x.onTables && x.keeps) = true ∨ ∃ ty, x = .arrayClass ty := fun x hx => good_of_word (List.mem_filter.mp hx).2
theorem fl_mok_spec {a : Nat} (h : fl_mok a = true) : fl_cw a ∈ fl_T ∧ Cond.initialized (fl_y a).cls ∈ fl_T ∧ ((fl_y a).cls ≠ "java/lang/invoke/MethodHandle" ∧ (fl_y a).cls ≠ "java/lang/invoke/VarHandle") ∧ fl_mx a ≤ 45 ∧ plainFor (fl_y a) = true := by
  simp only [fl_mok, Bool.and_eq_true, decide_eq_true_eq] at h
  exact ⟨fl_tm_mem h.1.1.1.1, fl_tm_mem h.1.1.1.2, h.1.1.2, h.1.2, h.2⟩
theorem fl_gi {a : Nat} (h : fl_cw a ∈ fl_T) : GoodIn fl_T (fl_wd a) := by
  intro x hx
  have hm : x ∈ fl_T := by
    rcases List.mem_cons.mp hx with e | e
    · rw [e]; exact h
    · exact e
  exact ⟨hm, fl_T_good x hm⟩
theorem fl_wd_nil {a : Nat} (h : fl_hh a = []) : fl_wd a = Cond.code (fl_y a) (fl_bytes a) (fl_mx a) (fl_ret a) :: fl_T := by
  unfold fl_wd fl_cw
  rw [h]
theorem fl_wd_cons {a : Nat} (h : fl_hh a ≠ []) : fl_wd a = Cond.codeWith (fl_y a) (fl_bytes a) (fl_mx a) (fl_ret a) (fl_hh a) :: fl_T := by
  unfold fl_wd fl_cw
  cases hh : fl_hh a with
  | nil => exact absurd hh h
  | cons x l => rfl
theorem fl_giS {a i : Nat} {own : String} (h : fl_cw a ∈ fl_T) (h1 : Cond.methodLink own i (fl_y a) ∈ fl_T) (h2 : Cond.static (fl_y a) ∈ fl_T) (h3 : Cond.initialized (fl_y a).cls ∈ fl_T) : GoodIn fl_T (va_wsS own i (fl_y a) (fl_wd a)) := by
  intro x hx
  unfold va_wsS at hx
  rcases List.mem_append.mp hx with e | e
  · have hm : x ∈ fl_T := by
      rcases List.mem_cons.mp e with e | e
      · rw [e]; exact h1
      · rcases List.mem_cons.mp e with e | e
        · rw [e]; exact h2
        · rw [List.mem_singleton.mp e]; exact h3
    exact ⟨hm, fl_T_good x hm⟩
  · exact fl_gi h x e
section FLC
variable {l : Launch} {D : va_G} {G : ClassId × ClassId × ClassId} {w : fl_V} {Ls : Nat} {xs : Nat → Int32} {p : Program} {e : Env} {R : Room} {s : State} {m : MethodId} {args : Array Value} {below : List Frame} {meth : Method} {c : Code} {Q : State → Prop} {k0 s0 mid pc : Nat} {L : fl_L} {st : List Value} {h : fl_H} {o : fl_O}
variable {nx : Nat → fl_L → List Value → fl_H → Option fl_O} {cl : Nat → List Value → fl_H → Option fl_O} {H : Heap} {locs : List Loc} {cells slots : Nat} {ls : Array Slot}
/-- it comes back -/
theorem fl_back {r : fl_O} {v : Option Value} {mc ms : Nat} {aa : Array Value} {st0 rest : List Value} (hrun : va_Run p l e R s m args below meth c H locs cells slots mc ms (F0 m pc ls st0) (rest.map (fl_cv w)) (fl_Qc D G w Ls xs r aa) (fl_Af w)) (hS : va_S (fl_Af w) s.heap H locs) (hv : r.1 = some v)
    (kk : ∀ (H1 : Heap) (locs1 : List Loc), fl_R D G w Ls xs r.2 H1 → va_S (fl_Af w) s.heap H1 locs1 → W p l e R s m args below meth c H1 locs1 (cells + mc) (slots + ms) Q (F0 m (pc + 3) ls ((v.toList ++ rest).map (fl_cv w)))) : W p l e R s m args below meth c H locs cells slots Q (F0 m pc ls st0) := by
  intro T hT X
  obtain ⟨v', st₀, t, T', L, h0, X', hL, e1, e2, ⟨⟨v9, hv1, hv2⟩, hR', hF⟩, st⟩ := hrun T hT X
  cases Option.some.inj (hv1.symm.trans hv)
  cases hv2
  obtain ⟨k1, k2, k3⟩ := vx_keep h0 e1 hS (fun q _ z => z) (fun q z => z) hL hF
  obtain ⟨t2, a1, b1⟩ := kk T'.heap (locs ++ L) (by rw [e1]; exact hR') k3 T' rfl X'
  refine ⟨t2, st t2 ?_, b1⟩
  cases v with
  | none => exact a1
  | some x => exact a1
/-- it throws -/
theorem fl_backX {r : fl_O} {mc ms : Nat} {aa : Array Value} {st0 rest : List Value} (hrun : vx_Run p l e R s m args below meth c H locs cells slots mc ms (F0 m pc ls st0) rest (fl_Qc D G w Ls xs r aa) (fl_XC D G w Ls xs r) (fl_Af w)) (hS : va_S (fl_Af w) s.heap H locs) (hv : r.1 = none)
    (kk : ∀ (H1 : Heap) (locs1 : List Loc) (q : Addr) (ce : Cell), fl_R D G w Ls xs r.2 H1 → va_S (fl_Af w) s.heap H1 locs1 → H1[q]? = some ce → ce.vm = .none → s.vm.findClass fl_nsee = some ce.cls → vx_W p l e R s m args below meth c H1 locs1 (cells + mc) (slots + ms) Q (F0 m pc ls rest) q) : W p l e R s m args below meth c H locs cells slots Q (F0 m pc ls st0) := by
  intro T hT X
  rcases hrun T hT X with ⟨v', st₀, t, T', L, h0, X', hL, e1, e2, ⟨⟨v9, hv1, hv2⟩, hR', hF⟩, st⟩ | ⟨q, st₀, t, T', L, E, ce, h0, X', hL, e1, e2, ⟨hE, hR', hF⟩, hce, hcv, hcl, st⟩
  · rw [hv] at hv1; cases hv1
  · obtain ⟨k1, k2, k3⟩ := vx_keep h0 e1 hS (fun q _ z => z) (fun q z => z) hL hF
    rw [hE] at hcl
    obtain ⟨t2, a1, b1⟩ := kk T'.heap (locs ++ L) q ce (by rw [e1]; exact hR') k3 (by rw [e1]; exact hce) hcv hcl T' rfl X'
    exact ⟨t2, st.trans a1, b1⟩
theorem fl_phi_cl {g : Bool} {a pc9 : Nat} {as r : List Value} {sw : List (Int32 × Nat)} (hφ : fl_phi nx cl (some (g, .inr (.inr (.inr (.inl (a, as, pc9, L, r, sw, h)))))) = some o) : g = true ∧ fl_aft nx pc9 L r sw (cl a as h) = some o := by
  cases g
  · cases hφ
  · exact ⟨rfl, hφ⟩
theorem fl_phi_call {nx : Nat → fl_L → List Value → fl_H → Option fl_O} {cl : Nat → List Value → fl_H → Option fl_O} {ins : Instr} {len a b c9 d p : Nat} {x : Int32} {q : Int64} {sw : List (Int32 × Nat)} {lv : Option (List Bool)} (hφ : fl_phi nx cl (fl_call (ins, len, a, b, c9, d, p, x, q, sw, lv) pc L st h) = some o) :
    ∃ (as r : List Value), fl_pop b [] st = some (as, r) ∧ (c9 = 0 ∨ c9 = 10 ∨ (c9 = 1 ∧ ∃ k l, as = .ref k :: l ∧ fl_k h k = (1, d % 16)) ∨ (c9 = 3 ∧ ∃ k l, as = .ref k :: l ∧ (fl_k h k).1 = 7) ∨ (c9 = 2 ∧ ∃ k l, as = .ref k :: l) ∨ (c9 = 12 ∧ ∃ k l, as = .ref k :: l)) ∧ fl_cat r ≤ 8 ∧ fl_cat as ≤ d / 16 ∧ (sw = [] ∨ L = []) ∧ fl_aft nx (pc + 3) L r sw (cl a as h) = some o := by
  unfold fl_call at hφ
  dsimp only at hφ
  cases hp : fl_pop b [] st with
  | none => rw [hp] at hφ; cases hφ
  | some z =>
    obtain ⟨as, r⟩ := z
    rw [hp] at hφ
    obtain ⟨hg, hφ⟩ := fl_phi_cl hφ
    · simp only [Bool.and_eq_true] at hg
      obtain ⟨g1, g2, g4, g3⟩ := hg
      refine ⟨as, r, rfl, ?_, Nat.le_of_ble_eq_true g2, Nat.le_of_ble_eq_true g4, ?_, hφ⟩
      · split at g1
        · exact Or.inl rfl
        · exact Or.inr (Or.inl rfl)
        · exact Or.inr (Or.inr (Or.inl ⟨rfl, _, _, rfl, of_decide_eq_true g1⟩))
        · exact Or.inr (Or.inr (Or.inr (Or.inl ⟨rfl, _, _, rfl, of_decide_eq_true g1⟩)))
        · exact Or.inr (Or.inr (Or.inr (Or.inr (Or.inl ⟨rfl, _, _, rfl⟩))))
        · exact Or.inr (Or.inr (Or.inr (Or.inr (Or.inr ⟨rfl, _, _, rfl⟩))))
        · cases g1
      · cases sw with
        | nil => exact Or.inl rfl
        | cons y z => exact Or.inr (List.isEmpty_iff.mp g3)
theorem fl_aft_inv {r : List Value} {sw : List (Int32 × Nat)} {z : Option fl_O} (hφ : fl_aft nx pc L r sw z = some o) : ∃ q : fl_O, z = some q ∧ ((∃ v, q.1 = some v ∧ nx pc L (v.toList ++ r) q.2 = some o) ∨ (q.1 = none ∧ ∃ x t l9, sw = (x, t) :: l9 ∧ nx t L [] q.2 = some o)) := by
  unfold fl_aft at hφ
  split at hφ
  · exact ⟨_, rfl, Or.inl ⟨_, rfl, hφ⟩⟩
  · split at hφ
    · exact ⟨_, rfl, Or.inr ⟨rfl, _, _, _, rfl, hφ⟩⟩
    · cases hφ
  · cases hφ
end FLC
end
section
/-! ONE STEP of the abstract machine is a step of the machine: calls -/
section FLD
variable {l : Launch} {D : va_G} {G : ClassId × ClassId × ClassId} {w : fl_V} {Ls : Nat} {xs : Nat → Int32} {p : Program} {e : Env} {R : Room} {s : State} {m : MethodId} {args : Array Value} {below : List Frame} {meth : Method} {c : Code} {Q : State → Prop} {k0 s0 mid pc : Nat} {L : fl_L} {st : List Value} {h : fl_H} {o : fl_O}
variable {nx : Nat → fl_L → List Value → fl_H → Option fl_O} {cl : Nat → List Value → fl_H → Option fl_O}
theorem fl_near {i a : Nat} (hN : ∀ x ∈ fl_nest, va_Nw (.methodLinkNest x.1 x.2.1 x.2.2.1 x.2.2.2) s) (h : fl_nest.any (fun z => decide (z.1 = (fl_y mid).cls) && decide (z.2.1 = i) && decide (z.2.2.1 = fl_y a)) = true) : ∃ host, va_Nw (.methodLinkNest (fl_y mid).cls i (fl_y a) host) s := by
  obtain ⟨z, hz, he⟩ := List.any_eq_true.mp h
  simp only [Bool.and_eq_true, decide_eq_true_eq] at he
  obtain ⟨⟨e1, e2⟩, e3⟩ := he
  have := hN z hz
  rw [e1, e2, e3] at this
  exact ⟨_, this⟩
set_option maxHeartbeats 1000000 in
set_option maxRecDepth 20000 in
theorem fl_one3 {len a b c9 d9 p9 : Nat} {x9 : Int32} {q9 : Int64} {sw : List (Int32 × Nat)} {lv : Option (List Bool)} (hC : fl_Cx l D G w Ls xs mid p s m args meth c) (nxt : ∀ pc L st h, nx pc L st h = some o → fl_Wd l D G w Ls xs p e R s m args below meth c Q k0 s0 mid pc L st h)
    (hmn : ∀ pc L st h, nx pc L st h = some o → h.1.2.1 ≤ o.2.1.2.1 ∧ h.1.2.2.1 ≤ o.2.1.2.2.1) (hRc : o.2.1.2.1 ≤ R.cells + k0) (hRs : o.2.1.2.2.1 ≤ R.slots + s0) (hRf : mid ≤ R.frames) (hRl : 64 * mid ≤ R.locals)
    (hcl : ∀ a as h r, a < mid → fl_mok a = true → fl_cat as ≤ fl_mx a → cl a as h = some r → fl_Ct l D G w Ls xs a as h r) (hno : ∀ as h, cl 9999 as h = none) : ∀ ins : Instr,
    fl_grp ins = 3 → fl_ok mid pc (ins, len, a, b, c9, d9, p9, x9, q9, sw, lv) = true → fl_phi nx cl (fl_step (ins, len, a, b, c9, d9, p9, x9, q9, sw, lv) pc L st h) = some o → fl_Wd l D G w Ls xs p e R s m args below meth c Q k0 s0 mid pc L st h := by
  intro ins hgr hok hφ H locs cells slots ls hR hS hq hc hs hL
  obtain ⟨hx, hb, hr, hml, hown, hts, hlk, hnm, het, hst, hEX⟩ := id hC
  have hw : fl_fm w := hEX.2.2.2.2.2.2.2.2.2.2.2
  have hz : ¬ (fl_phi nx cl none = some o) := fun z => by cases z
  have S : CallFix p m c (fl_bytes mid) (fl_mx mid) s args fl_T (fl_y mid).cls := ⟨hx, hb, hml, hown, hts⟩
  have hpre : ∀ as : List Value, ∀ T : State, T.heap = H → Stand p l e R s m args below meth c T locs cells slots → ∀ U : State, U.heap = H → s.WarmedH U.vm → fl_Pc D G w Ls xs as h (as.map (fl_cv w)).toArray U := by
    intro as T hT X U hU hW
    refine ⟨rfl, by rw [hU]; exact hR, by rw [hU]; exact hEX.to hW hS.1 hS.2.1, fun hx => ?_⟩
    rw [hU, fl_size hEX hR hS hq hc hT X hx, hR.2.1 hx]
  cases ins
  case invokestatic i =>
    simp only [fl_ok, Bool.and_eq_true, Bool.or_eq_true, decide_eq_true_eq] at hok
    obtain ⟨hd, h1, hk⟩ := hok
    subst h1
    have hφ : fl_phi nx cl (fl_call (.invokestatic i, 3, a, b, c9, d9, p9, x9, q9, sw, lv) pc L st h) = some o := hφ
    obtain ⟨as, r, hpop, hkind, hcat, hcas, hsw, haft⟩ := fl_phi_call hφ
    obtain ⟨q, hq1, hq2⟩ := fl_aft_inv haft
    rcases hk with hk | hk
    · subst hk
      rw [hno] at hq1; cases hq1
    obtain ⟨⟨⟨⟨⟨⟨k1, k2⟩, k3⟩, kd⟩, k4⟩, k5⟩, k6⟩ := hk
    subst k5
    obtain ⟨v, hv, hn⟩ : ∃ v, q.1 = some v ∧ nx (pc + 3) L (v.toList ++ r) q.2 = some o := by
      rcases hq2 with z | ⟨-, x, t, l9, z, -⟩
      · exact z
      · cases z
    obtain ⟨c1, c2, c3, cM, -⟩ := hcl a as h q k1 k2 (Nat.le_trans hcas kd) hq1
    obtain ⟨n1, n2⟩ := hmn _ _ _ _ hn
    obtain ⟨m1, m2, m3, m4, m5⟩ := fl_mok_spec k2
    obtain ⟨l9, e1, e2, e3⟩ := fl_pop_eq _ _ _ _ _ hpop
    rw [List.append_nil] at e1
    subst e1
    subst e3
    have hfr : (fl_rm a (q.2.1.2.1 - h.1.2.1) (q.2.1.2.2.1 - h.1.2.2.1)).frames + 1 ≤ R.frames ∧ 8 + (fl_mx a + 11) + (fl_rm a (q.2.1.2.1 - h.1.2.1) (q.2.1.2.2.1 - h.1.2.2.1)).locals ≤ R.locals := ⟨by show a + 1 ≤ _; omega, by show 8 + (fl_mx a + 11) + 64 * a ≤ _; omega⟩
    have hf : cells + (q.2.1.2.1 - h.1.2.1) ≤ R.cells ∧ slots + (q.2.1.2.2.1 - h.1.2.2.1) ≤ R.slots := by omega
    have hstk : ((as.reverse ++ r).map (fl_cv w)) = (as.map (fl_cv w)).reverse ++ r.map (fl_cv w) := by rw [List.map_append, List.map_reverse]
    have hWt : 2 * (F0 m pc ls ((as.reverse ++ r).map (fl_cv w))).monitorRoom + ((r.map (fl_cv w)).map fun v => v.category).sum ≤ 8 := by
      rw [fl_cat_eq hw]
      exact Nat.le_trans (Nat.le_of_eq (Nat.zero_add _)) hcat
    have ret : ∀ (H1 : Heap) (locs1 : List Loc), fl_R D G w Ls xs q.2 H1 → va_S (fl_Af w) s.heap H1 locs1 → W p l e R s m args below meth c H1 locs1 (cells + (q.2.1.2.1 - h.1.2.1)) (slots + (q.2.1.2.2.1 - h.1.2.2.1)) Q (F0 m (pc + 3) ls ((v.toList ++ r).map (fl_cv w))) :=
      fun H1 locs1 hR1 hS1 => nxt _ _ _ _ hn H1 locs1 _ _ ls hR1 hS1 (fun hx => hq (c3 hx)) (by omega) (by omega) hL
    intro T hT X
    split at k6
    · by_cases hh : fl_hh a = []
      · exact fl_back (va_runS (g := F0 m pc ls ((as.reverse ++ r).map (fl_cv w))) S (cM v hv) (va_cwS b hts (fl_giS m1 (fl_t_mem k6) (fl_tm_mem k4) m2) (fl_wd_nil hh) rfl rfl ⟨m3.1, m3.2, k3⟩ hfr) ⟨fl_blind, hpre as T hT X⟩ rfl (by rw [List.length_map]; exact e2) hL.1 hstk hWt hd hf) hS hv ret T hT X
      · exact fl_back (vx_runSW (g := F0 m pc ls ((as.reverse ++ r).map (fl_cv w))) S (cM v hv) (vx_cwSW b hts (fl_giS m1 (fl_t_mem k6) (fl_tm_mem k4) m2) (fl_wd_cons hh) rfl rfl ⟨m3.1, m3.2, k3⟩ hfr) ⟨fl_blind, hpre as T hT X⟩ rfl (by rw [List.length_map]; exact e2) hL.1 hstk hWt hd hf) hS hv ret T hT X
    · simp only [Bool.and_eq_true, decide_eq_true_eq] at k6
      obtain ⟨hh, k6⟩ := k6
      obtain ⟨host, hnst⟩ := fl_near hEX.2.1.1 k6
      exact fl_back (va_runSN (g := F0 m pc ls ((as.reverse ++ r).map (fl_cv w))) S (cM v hv) ⟨va_cnB b hts (fl_gi m1) (fl_wd_nil hh) rfl rfl hnst (hts _ m2) ⟨m3.1, m3.2, k3⟩ hfr, hts _ (fl_tm_mem k4), trivial⟩ ⟨fl_blind, hpre as T hT X⟩ rfl (by rw [List.length_map]; exact e2) hL.1 hstk hWt hd hf) hS hv ret T hT X
    · cases k6
  case invokevirtual i =>
    simp only [fl_ok, Bool.and_eq_true, Bool.or_eq_true, decide_eq_true_eq] at hok
    obtain ⟨hd, h1, hk⟩ := hok
    subst h1
    have hφ : fl_phi nx cl (fl_call (.invokevirtual i, 3, a, b, c9, d9, p9, x9, q9, sw, lv) pc L st h) = some o := hφ
    obtain ⟨as, r, hpop, hkind, hcat, hcas, hsw, haft⟩ := fl_phi_call hφ
    obtain ⟨q, hq1, hq2⟩ := fl_aft_inv haft
    rcases hk with hk | hk
    · subst hk
      rw [hno] at hq1; cases hq1
    obtain ⟨⟨⟨⟨⟨⟨⟨⟨⟨⟨k1, k2⟩, k3⟩, kd⟩, k4⟩, k5⟩, k6⟩, k7⟩, k8⟩, k9⟩, ka⟩ := hk
    obtain ⟨c1, c2, c3, cM, cX⟩ := hcl a as h q k1 k2 (Nat.le_trans hcas kd) hq1
    obtain ⟨m1, m2, m3, m4, m5⟩ := fl_mok_spec k2
    obtain ⟨l9, e1, e2, e3⟩ := fl_pop_eq _ _ _ _ _ hpop
    rw [List.append_nil] at e1
    subst e1
    subst e3
    obtain ⟨k, l8, ek, cellB, hcB, hoB, hclB⟩ : ∃ k l8, as = Value.ref k :: l8 ∧ ∃ cellB : Cell, H[fl_ad w k]? = some cellB ∧ cellB.vm.isStatics = false ∧ s.vm.findClass (fl_y a).cls = some cellB.cls := by
      split at k9
      · simp only [Bool.and_eq_true, decide_eq_true_eq] at k9
        rcases hkind with z | z | ⟨-, k, l8, ek, hk⟩ | ⟨z, -⟩ | ⟨z, -⟩ | ⟨z, -⟩
        · exact absurd z (by decide)
        · exact absurd z (by decide)
        · have hkn : k < h.1.1 := hR.inner (by rw [hk]; exact Nat.one_ne_zero) (by rw [hk]; exact Nat.lt_of_sub_eq_succ rfl)
          obtain ⟨f1, -⟩ := fl_cls (d9 % 16) k9.1
          obtain ⟨cb, g1, g2, g3⟩ := va_recv hEX.1 hR.1 f1 (by rw [fl_ws_at hkn, fl_cell_obj hk])
          exact ⟨k, l8, ek, cb, by rw [hR.ad hkn]; exact g1, g2, by rw [← k9.2]; exact g3⟩
        · exact absurd z (by decide)
        · exact absurd z (by decide)
        · exact absurd z (by decide)
      · rcases hkind with z | z | ⟨z, -⟩ | ⟨-, k, l8, ek, hk⟩ | ⟨z, -⟩ | ⟨z, -⟩
        · exact absurd z (by decide)
        · exact absurd z (by decide)
        · exact absurd z (by decide)
        · rcases hR.outer (k := k) (by rw [hk]; decide) with ⟨f1, f2, f3⟩ | ⟨-, -, f3, -⟩ | ⟨-, f3, -⟩
          · obtain ⟨cb, g1, g2, g3⟩ := vk_recv hEX.2.2.2.1 (i := k - 1048576) (by omega) hS
            refine ⟨k, l8, ek, cb, ?_, g2, by rw [of_decide_eq_true k9]; exact g3⟩
            unfold fl_ad
            rw [if_neg (by omega), if_pos (by omega)]
            exact g1
          · rw [f3] at hk; exact absurd hk (by show ¬ 5 = 7; decide)
          · rw [f3] at hk; exact absurd hk (by show ¬ 6 = 7; decide)
        · exact absurd z (by decide)
        · exact absurd z (by decide)
      · cases k9
    subst ek
    have hlen : (l8.map (fl_cv w)).length = b - 1 := by
      rw [List.length_map, ← e2, List.length_cons]; rfl
    have hfr : (fl_rm a (q.2.1.2.1 - h.1.2.1) (q.2.1.2.2.1 - h.1.2.2.1)).frames + 1 ≤ R.frames ∧ 8 + (fl_mx a + 11) + (fl_rm a (q.2.1.2.1 - h.1.2.1) (q.2.1.2.2.1 - h.1.2.2.1)).locals ≤ R.locals := ⟨by show a + 1 ≤ _; omega, by show 8 + (fl_mx a + 11) + 64 * a ≤ _; omega⟩
    have hstk : (((Value.ref k :: l8).reverse ++ r).map (fl_cv w)) = (l8.map (fl_cv w)).reverse ++ Value.ref (fl_ad w k) :: r.map (fl_cv w) := by
      rw [List.reverse_cons, List.append_assoc, List.map_append, List.map_reverse]
      rfl
    have hWt : 2 * (F0 m pc ls (((Value.ref k :: l8).reverse ++ r).map (fl_cv w))).monitorRoom + ((r.map (fl_cv w)).map fun v => v.category).sum ≤ 8 := by
      rw [fl_cat_eq hw]
      exact Nat.le_trans (Nat.le_of_eq (Nat.zero_add _)) hcat
    have cw : CallW R s args (fl_y mid).cls (fl_y a).cls i (fl_y a) (fl_bytes a) (fl_mx a) (fl_ret a) (fl_wd a) (fl_rm a (q.2.1.2.1 - h.1.2.1) (q.2.1.2.2.1 - h.1.2.2.1)) (q.2.1.2.1 - h.1.2.1) (q.2.1.2.2.1 - h.1.2.2.1) (b - 1) :=
      ⟨callB_of (b - 1) hts (fl_gi m1) (fl_wd_nil k8) rfl rfl (hts _ m2) (hts _ (fl_t_mem k7)) ⟨m3.1, m3.2, k3⟩ hfr, hts _ (fl_tm_mem k5), hts _ (fl_tm_mem k6)⟩
    rcases hq2 with ⟨v, hv, hn⟩ | ⟨hv, x, t, l7, hsw9, hn⟩
    · obtain ⟨n1, n2⟩ := hmn _ _ _ _ hn
      have hf : cells + (q.2.1.2.1 - h.1.2.1) ≤ R.cells ∧ slots + (q.2.1.2.2.1 - h.1.2.2.1) ≤ R.slots := by omega
      intro T hT X
      exact fl_back (va_runV (g := F0 m pc ls (((Value.ref k :: l8).reverse ++ r).map (fl_cv w))) S (cM v hv) cw ⟨fl_blind, ⟨cellB, hcB, hoB, hclB⟩, hpre (Value.ref k :: l8) T hT X⟩ rfl hlen hL.1 hstk hWt hd hf) hS hv
        (fun H1 locs1 hR1 hS1 => nxt _ _ _ _ hn H1 locs1 _ _ ls hR1 hS1 (fun hx => hq (c3 hx)) (by omega) (by omega) hL) T hT X
    · obtain ⟨n1, n2⟩ := hmn _ _ _ _ hn
      have hf : cells + (q.2.1.2.1 - h.1.2.1) ≤ R.cells ∧ slots + (q.2.1.2.2.1 - h.1.2.2.1) ≤ R.slots := by omega
      subst hsw9
      have hL0 : L = [] := hsw.resolve_left (fun z => by cases z)
      subst hL0
      simp only [Bool.and_eq_true, decide_eq_true_eq] at ka
      obtain ⟨ka, kb⟩ := ka
      intro T hT X
      refine fl_backX (vx_runV (g := F0 m pc ls (((Value.ref k :: l8).reverse ++ r).map (fl_cv w))) S (cX hv) cw ⟨fl_blind, ⟨cellB, hcB, hoB, hclB⟩, hpre (Value.ref k :: l8) T hT X⟩ rfl hlen hL.1 hstk hWt hd hf) hS hv (fun H1 locs1 q7 ce hR1 hS1 hce hcv hcl9 => ?_) T hT X
      have go : ∀ ls' : Array Slot, lv_has ls' (fl_mx mid) [] ∨ True → ls'.size = fl_mx mid → lv_wf ls' → W p l e R s m args below meth c H1 locs1 (cells + (q.2.1.2.1 - h.1.2.1)) (slots + (q.2.1.2.2.1 - h.1.2.2.1)) Q (F0 m t ls' []) := fun ls' _ z1 z2 =>
        nxt _ _ _ _ hn H1 locs1 _ _ ls' hR1 hS1 (fun hx => hq (c3 hx)) (by omega) (by omega) ⟨z1, z2, fun i v hv => by cases hv⟩
      have hcast : (Cond.castable fl_nsee fl_nsee) ∈ lw_tbl → (Cond.castable fl_nsee fl_nsee).before args s = true := fun z => va_Nw.use rfl (hEX.2.1.2 _ z (by decide))
      split at kb
      · rename_i s0 e0 h0 ct j n hhh hdj
        simp only [Bool.and_eq_true, decide_eq_true_eq] at kb
        obtain ⟨⟨⟨⟨⟨⟨⟨b1, b2⟩, b3⟩, b4⟩, b5⟩, b6⟩, b7⟩, b8⟩ := kb
        subst b4
        have het := het (by rw [hhh]; exact List.cons_ne_nil _ _)
        rw [hhh] at hdj het
        simp only [fl_tx, Bool.and_eq_true, decide_eq_true_eq] at b7
        refine vx_catch (name := fl_nsee) hown [] _ [] het (fun z hz => nomatch hz) ?_ b8 (hts _ (fl_tm_mem b6)) (hcast b7.1) hce hcv hcl9 ?_
        · simp [covers, b1, b2]
        · refine lv_astore hx hb hdj hL.has b5 rfl (fun ls' hl' => ?_)
          have := go ls' (Or.inr trivial) hl'.1 hl'.2.1
          rw [← b3] at this
          exact this
      · rename_i s0 e0 h0 ct j n hhh hdj
        simp only [Bool.and_eq_true, decide_eq_true_eq] at kb
        obtain ⟨⟨⟨⟨⟨⟨⟨b1, b2⟩, b3⟩, b4⟩, b5⟩, b6⟩, b7⟩, b8⟩ := kb
        subst b4
        have het := het (by rw [hhh]; exact List.cons_ne_nil _ _)
        rw [hhh] at hdj het
        simp only [fl_tx, Bool.and_eq_true, decide_eq_true_eq] at b7
        refine vx_catch (name := fl_nsee) hown [] _ [] het (fun z hz => nomatch hz) ?_ b8 (hts _ (fl_tm_mem b6)) (hcast b7.1) hce hcv hcl9 ?_
        · simp [covers, b1, b2]
        · refine lv_astore_n hx hb hdj rfl hL.has b5 rfl (fun ls' hl' => ?_)
          have := go ls' (Or.inr trivial) hl'.1 hl'.2.1
          rw [← b3] at this
          exact this
      · cases kb
  case invokespecial i =>
    simp only [fl_ok, Bool.and_eq_true, decide_eq_true_eq] at hok
    obtain ⟨hd, h1, hk⟩ := hok
    subst h1
    cases a with
    | zero =>
      simp only [Bool.and_eq_true, decide_eq_true_eq] at hk
      obtain ⟨⟨⟨k1, k2⟩, k3⟩, k4⟩ := hk
      obtain ⟨x, r, hst2, hφ⟩ := fl_r1_inv (z := fun q => fl_phi nx cl q = some o) hz hφ
      subst hst2
      obtain ⟨g1, hφ⟩ := fl_phi_ng hφ
      refine W.objInit (g := F0 m pc ls ((Value.ref x :: r).map (fl_cv w))) hx hb hown (hts _ (fl_t_mem k1)) (hts _ (fl_tm_mem k2)) (hts _ (fl_tm_mem k3)) rfl (hL.1.trans hml.symm) (a := fl_ad w x) (rest := r.map (fl_cv w)) rfl hd (by omega) ?_ (nxt _ _ _ _ hφ H locs cells slots ls hR hS hq hc hs hL)
      have : 2 * (F0 m pc ls ((Value.ref x :: r).map (fl_cv w))).monitorRoom = 0 := rfl
      rw [fl_cat_eq hw, this]
      have := Nat.le_of_ble_eq_true g1
      omega
    | succ a =>
      simp only [Bool.and_eq_true, decide_eq_true_eq] at hk
      have hφ : fl_phi nx cl (fl_call (.invokespecial i, 3, a + 1, b, c9, d9, p9, x9, q9, sw, lv) pc L st h) = some o := hφ
      obtain ⟨as, r, hpop, hkind, hcat, hcas, hsw, haft⟩ := fl_phi_call hφ
      obtain ⟨q, hq1, hq2⟩ := fl_aft_inv haft
      obtain ⟨⟨⟨⟨⟨⟨⟨⟨⟨⟨k1, k2⟩, k3⟩, kd⟩, k4⟩, k5⟩, k6⟩, k7⟩, k8⟩, k9⟩, ka⟩ := hk
      subst k9
      obtain ⟨v, hv, hn⟩ : ∃ v, q.1 = some v ∧ nx (pc + 3) L (v.toList ++ r) q.2 = some o := by
        rcases hq2 with z | ⟨-, x, t, l9, z, -⟩
        · exact z
        · cases z
      obtain ⟨c1, c2, c3, cM, -⟩ := hcl (a + 1) as h q k1 k2 (Nat.le_trans hcas kd) hq1
      obtain ⟨n1, n2⟩ := hmn _ _ _ _ hn
      obtain ⟨m1, m2, m3, m4, m5⟩ := fl_mok_spec k2
      obtain ⟨l9, e1, e2, e3⟩ := fl_pop_eq _ _ _ _ _ hpop
      rw [List.append_nil] at e1
      subst e1
      subst e3
      have hfr : (fl_rm (a + 1) (q.2.1.2.1 - h.1.2.1) (q.2.1.2.2.1 - h.1.2.2.1)).frames + 1 ≤ R.frames ∧ 8 + (fl_mx (a + 1) + 11) + (fl_rm (a + 1) (q.2.1.2.1 - h.1.2.1) (q.2.1.2.2.1 - h.1.2.2.1)).locals ≤ R.locals := ⟨by show a + 1 + 1 ≤ _; omega, by show 8 + (fl_mx (a + 1) + 11) + 64 * (a + 1) ≤ _; omega⟩
      have hf : cells + (q.2.1.2.1 - h.1.2.1) ≤ R.cells ∧ slots + (q.2.1.2.2.1 - h.1.2.2.1) ≤ R.slots := by omega
      have hwd : fl_wd (a + 1) = Cond.code (fl_y (a + 1)) (fl_bytes (a + 1)) (fl_mx (a + 1)) none :: fl_T := by rw [fl_wd_nil k8, k7]
      intro T hT X
      split at ka
      · obtain ⟨k, l8, ek⟩ : ∃ k l8, as = Value.ref k :: l8 := by
          rcases hkind with z | z | ⟨z, -⟩ | ⟨z, -⟩ | ⟨-, k, l8, ek⟩ | ⟨z, -⟩
          · exact absurd z (by decide)
          · exact absurd z (by decide)
          · exact absurd z (by decide)
          · exact absurd z (by decide)
          · exact ⟨k, l8, ek⟩
          · exact absurd z (by decide)
        subst ek
        have hlen : (l8.map (fl_cv w)).length = b - 1 := by
          rw [List.length_map, ← e2, List.length_cons]; rfl
        have hstk : (((Value.ref k :: l8).reverse ++ r).map (fl_cv w)) = (l8.map (fl_cv w)).reverse ++ Value.ref (fl_ad w k) :: r.map (fl_cv w) := by
          rw [List.reverse_cons, List.append_assoc, List.map_append, List.map_reverse]
          rfl
        have hWt : 2 * (F0 m pc ls (((Value.ref k :: l8).reverse ++ r).map (fl_cv w))).monitorRoom + ((r.map (fl_cv w)).map fun v => v.category).sum ≤ 8 := by
          rw [fl_cat_eq hw]
          exact Nat.le_trans (Nat.le_of_eq (Nat.zero_add _)) hcat
        exact fl_back (va_runI (g := F0 m pc ls (((Value.ref k :: l8).reverse ++ r).map (fl_cv w))) S (cM v hv) ⟨callB_of (b - 1) hts (fl_gi m1) hwd rfl rfl (hts _ m2) (hts _ (fl_t_mem ka)) ⟨m3.1, m3.2, k3⟩ hfr, k6, hts _ (fl_tm_mem k5)⟩ ⟨fl_blind, hpre (Value.ref k :: l8) T hT X⟩ rfl hlen hL.1 hstk hWt hd hf) hS hv
          (fun H1 locs1 hR1 hS1 => nxt _ _ _ _ hn H1 locs1 _ _ ls hR1 hS1 (fun hx => hq (c3 hx)) (by omega) (by omega) hL) T hT X
      · obtain ⟨k, l8, ek⟩ : ∃ k l8, as = Value.ref k :: l8 := by
          rcases hkind with z | z | ⟨z, -⟩ | ⟨z, -⟩ | ⟨z, -⟩ | ⟨-, k, l8, ek⟩
          · exact absurd z (by decide)
          · exact absurd z (by decide)
          · exact absurd z (by decide)
          · exact absurd z (by decide)
          · exact absurd z (by decide)
          · exact ⟨k, l8, ek⟩
        subst ek
        have hlen : (l8.map (fl_cv w)).length = b - 1 := by
          rw [List.length_map, ← e2, List.length_cons]; rfl
        have hstk : (((Value.ref k :: l8).reverse ++ r).map (fl_cv w)) = (l8.map (fl_cv w)).reverse ++ Value.ref (fl_ad w k) :: r.map (fl_cv w) := by
          rw [List.reverse_cons, List.append_assoc, List.map_append, List.map_reverse]
          rfl
        have hWt : 2 * (F0 m pc ls (((Value.ref k :: l8).reverse ++ r).map (fl_cv w))).monitorRoom + ((r.map (fl_cv w)).map fun v => v.category).sum ≤ 8 := by
          rw [fl_cat_eq hw]
          exact Nat.le_trans (Nat.le_of_eq (Nat.zero_add _)) hcat
        obtain ⟨host, hnst⟩ := fl_near hEX.2.1.1 ka
        exact fl_back (va_runIN (g := F0 m pc ls (((Value.ref k :: l8).reverse ++ r).map (fl_cv w))) S (cM v hv) ⟨va_cnB (b - 1) hts (fl_gi m1) hwd rfl rfl hnst (hts _ m2) ⟨m3.1, m3.2, k3⟩ hfr, k6, hts _ (fl_tm_mem k5)⟩ ⟨fl_blind, hpre (Value.ref k :: l8) T hT X⟩ rfl hlen hL.1 hstk hWt hd hf) hS hv
          (fun H1 locs1 hR1 hS1 => nxt _ _ _ _ hn H1 locs1 _ _ ls hR1 hS1 (fun hx => hq (c3 hx)) (by omega) (by omega) hL) T hT X
      · cases ka
  all_goals (simp [fl_grp] at hgr)
end FLD
end
section
/-! THE COUNTERS of the abstract machine only grow -/
def fl_mn (h h' : fl_H) : Prop := h.1.2.1 ≤ h'.1.2.1 ∧ h.1.2.2.1 ≤ h'.1.2.2.1 ∧ (h'.1.2.2.2 = true → h.1.2.2.2 = true)
theorem fl_mn_rfl {h : fl_H} : fl_mn h h := ⟨Nat.le_refl _, Nat.le_refl _, id⟩
theorem fl_mn.trans {h h' h2 : fl_H} (p : fl_mn h h') (q : fl_mn h' h2) : fl_mn h h2 := ⟨Nat.le_trans p.1 q.1, Nat.le_trans p.2.1 q.2.1, fun z => p.2.2 (q.2.2 z)⟩
theorem fl_mn_mk {h : fl_H} {kd : Nat × Nat} {n : Nat} : fl_mn h (fl_mk h kd n) := ⟨Nat.le_succ _, Nat.le_add_right _ _, id⟩
theorem fl_mn_th {h : fl_H} : fl_mn h (fl_th h) := ⟨Nat.le_succ _, Nat.le_add_right _ _, fun z => nomatch z⟩
def fl_Am (h : fl_H) : Option (Bool × fl_A) → Prop
  | none => True
  | some (_, .inl (_, _, _, h')) => fl_mn h h'
  | some (_, .inr (.inl (_, _, _, _, _, h'))) => fl_mn h h'
  | some (_, .inr (.inr (.inl (_, _, _, _, _, h')))) => fl_mn h h'
  | some (_, .inr (.inr (.inr (.inl (_, _, _, _, _, _, h'))))) => fl_mn h h'
  | some (_, .inr (.inr (.inr (.inr (_, h'))))) => fl_mn h h'
section FLM
variable {h : fl_H} {st : List Value} {L : fl_L}
theorem fl_Am_ii {k : Int32 → Int32 → List Value → Option (Bool × fl_A)} (hk : ∀ x y r, fl_Am h (k x y r)) : fl_Am h (fl_ii st k) := by
  unfold fl_ii; split
  · exact hk _ _ _
  · trivial
theorem fl_Am_ll {k : Int64 → Int64 → List Value → Option (Bool × fl_A)} (hk : ∀ x y r, fl_Am h (k x y r)) : fl_Am h (fl_ll st k) := by
  unfold fl_ll; split
  · exact hk _ _ _
  · trivial
theorem fl_Am_li {k : Int64 → Int32 → List Value → Option (Bool × fl_A)} (hk : ∀ x y r, fl_Am h (k x y r)) : fl_Am h (fl_li st k) := by
  unfold fl_li; split
  · exact hk _ _ _
  · trivial
theorem fl_Am_i1 {k : Int32 → List Value → Option (Bool × fl_A)} (hk : ∀ x r, fl_Am h (k x r)) : fl_Am h (fl_i1 st k) := by
  unfold fl_i1; split
  · exact hk _ _
  · trivial
theorem fl_Am_l1 {k : Int64 → List Value → Option (Bool × fl_A)} (hk : ∀ x r, fl_Am h (k x r)) : fl_Am h (fl_l1 st k) := by
  unfold fl_l1; split
  · exact hk _ _
  · trivial
theorem fl_Am_r1 {k : Nat → List Value → Option (Bool × fl_A)} (hk : ∀ x r, fl_Am h (k x r)) : fl_Am h (fl_r1 st k) := by
  unfold fl_r1; split
  · exact hk _ _
  · trivial
theorem fl_Am_ri {k : Nat → Int32 → List Value → Option (Bool × fl_A)} (hk : ∀ x y r, fl_Am h (k x y r)) : fl_Am h (fl_ri st k) := by
  unfold fl_ri; split
  · exact hk _ _ _
  · trivial
theorem fl_Am_rii {k : Nat → Int32 → Int32 → List Value → Option (Bool × fl_A)} (hk : ∀ x y z r, fl_Am h (k x y z r)) : fl_Am h (fl_rii st k) := by
  unfold fl_rii; split
  · exact hk _ _ _ _
  · trivial
theorem fl_Am_ril {k : Nat → Int32 → Int64 → List Value → Option (Bool × fl_A)} (hk : ∀ x y z r, fl_Am h (k x y z r)) : fl_Am h (fl_ril st k) := by
  unfold fl_ril; split
  · exact hk _ _ _ _
  · trivial
theorem fl_Am_rl {k : Nat → Int64 → List Value → Option (Bool × fl_A)} (hk : ∀ x y r, fl_Am h (k x y r)) : fl_Am h (fl_rl st k) := by
  unfold fl_rl; split
  · exact hk _ _ _
  · trivial
theorem fl_Am_rr {k : Nat → Nat → List Value → Option (Bool × fl_A)} (hk : ∀ x y r, fl_Am h (k x y r)) : fl_Am h (fl_rr st k) := by
  unfold fl_rr; split
  · exact hk _ _ _
  · trivial
theorem fl_Am_iv {a : Nat} {k : Int32 → Option (Bool × fl_A)} (hk : ∀ x, fl_Am h (k x)) : fl_Am h (fl_iv L a k) := by
  unfold fl_iv; split
  · exact hk _
  · trivial
theorem fl_Am_lv {a : Nat} {k : Int64 → Option (Bool × fl_A)} (hk : ∀ x, fl_Am h (k x)) : fl_Am h (fl_lv L a k) := by
  unfold fl_lv; split
  · exact hk _
  · trivial
theorem fl_Am_rv {a : Nat} {k : Nat → Option (Bool × fl_A)} (hk : ∀ x, fl_Am h (k x)) : fl_Am h (fl_rv L a k) := by
  unfold fl_rv; split
  · exact hk _
  · trivial
theorem fl_Am_call {e : fl_E} {pc : Nat} : fl_Am h (fl_call e pc L st h) := by
  obtain ⟨ins, len, a, b, c, d, p, x, q, sw, lv⟩ := e
  unfold fl_call
  dsimp only
  split
  · exact fl_mn_rfl
  · trivial
set_option maxHeartbeats 1000000 in
theorem fl_step_mn (e : fl_E) (pc : Nat) : fl_Am h (fl_step e pc L st h) := by
  obtain ⟨ins, len, a, b, c, d, p, x, q, sw, lv⟩ := e
  cases ins
  all_goals (try exact trivial)
  all_goals (try exact (fl_mn_rfl : fl_mn h h))
  all_goals (try exact fl_Am_call)
  all_goals (try exact fl_Am_ii (fun _ _ _ => (fl_mn_rfl : fl_mn h h)))
  all_goals (try exact fl_Am_ll (fun _ _ _ => (fl_mn_rfl : fl_mn h h)))
  all_goals (try exact fl_Am_li (fun _ _ _ => (fl_mn_rfl : fl_mn h h)))
  all_goals (try exact fl_Am_i1 (fun _ _ => (fl_mn_rfl : fl_mn h h)))
  all_goals (try exact fl_Am_l1 (fun _ _ => (fl_mn_rfl : fl_mn h h)))
  all_goals (try exact fl_Am_r1 (fun _ _ => (fl_mn_rfl : fl_mn h h)))
  all_goals (try exact fl_Am_ri (fun _ _ _ => (fl_mn_rfl : fl_mn h h)))
  all_goals (try exact fl_Am_rii (fun _ _ _ _ => (fl_mn_rfl : fl_mn h h)))
  all_goals (try exact fl_Am_ril (fun _ _ _ _ => (fl_mn_rfl : fl_mn h h)))
  all_goals (try exact fl_Am_iv (fun _ => (fl_mn_rfl : fl_mn h h)))
  all_goals (try exact fl_Am_lv (fun _ => (fl_mn_rfl : fl_mn h h)))
  all_goals (try exact fl_Am_rv (fun _ => (fl_mn_rfl : fl_mn h h)))
  all_goals (try exact fl_Am_i1 (fun _ _ => (fl_mn_mk : fl_mn h _)))
  all_goals (dsimp only [fl_step])
  all_goals (try exact fl_Am_call)
  all_goals (split)
  all_goals (try exact trivial)
  all_goals (try exact (fl_mn_rfl : fl_mn h h))
  all_goals (try exact fl_Am_call)
  all_goals (try exact (fl_mn_mk : fl_mn h _))
  all_goals (try exact (fl_mn_th : fl_mn h _))
  all_goals (try exact fl_Am_r1 (fun _ _ => (fl_mn_rfl : fl_mn h h)))
  all_goals (try exact fl_Am_rl (fun _ _ _ => (fl_mn_rfl : fl_mn h h)))
  all_goals (try exact fl_Am_rr (fun _ _ _ => (fl_mn_rfl : fl_mn h h)))
  all_goals (split)
  all_goals (try exact trivial)
  all_goals (exact (fl_mn_rfl : fl_mn h h))
end FLM
theorem fl_swi_mn {h : fl_H} {o : fl_O} {x : Int32} {k : Nat → Option fl_O} (hk : ∀ t, k t = some o → fl_mn h o.2) (d : Nat) : ∀ l : List (Int32 × Nat), fl_swi x k d l = some o → fl_mn h o.2
  | [], hφ => hk d hφ
  | (v, t) :: l, hφ => by
    unfold fl_swi at hφ
    by_cases hv : x = v
    · rw [if_pos hv] at hφ; exact hk t hφ
    · rw [if_neg hv] at hφ; exact fl_swi_mn hk d l hφ
theorem fl_phi_mn {nx : Nat → fl_L → List Value → fl_H → Option fl_O} {cl : Nat → List Value → fl_H → Option fl_O} {h : fl_H} {o : fl_O} (hnx : ∀ pc L st h', nx pc L st h' = some o → fl_mn h' o.2) (hcl : ∀ a as h' r, cl a as h' = some r → fl_mn h' r.2) : ∀ s : Option (Bool × fl_A), fl_Am h s → fl_phi nx cl s = some o → fl_mn h o.2 := by
  intro s hA hφ
  cases s with
  | none => cases hφ
  | some z =>
    obtain ⟨g, x⟩ := z
    cases g with
    | false => cases hφ
    | true =>
      rcases x with ⟨pc, L, st, h'⟩ | ⟨b, t, f, L, st, h'⟩ | ⟨x, sw, d, L, st, h'⟩ | ⟨m', as, pc, L, r, sw, h'⟩ | ⟨r, h'⟩
      · exact fl_mn.trans hA (hnx _ _ _ _ hφ)
      · cases b
        · exact fl_mn.trans hA (hnx _ _ _ _ hφ)
        · exact fl_mn.trans hA (hnx _ _ _ _ hφ)
      · exact fl_mn.trans hA (fl_swi_mn (fun t ht => hnx _ _ _ _ ht) d sw hφ)
      · obtain ⟨q, hq1, hq2⟩ := fl_aft_inv hφ
        refine fl_mn.trans hA (fl_mn.trans (hcl _ _ _ _ hq1) ?_)
        rcases hq2 with ⟨v, -, hn⟩ | ⟨-, x, t, l9, -, hn⟩
        · exact hnx _ _ _ _ hn
        · exact hnx _ _ _ _ hn
      · have hφ : some (r, h') = some o := hφ
        cases hφ
        exact hA
theorem fl_ex_mn {C : Nat → Nat → Option fl_E} : ∀ (n m pc : Nat) (L : fl_L) (st : List Value) (h : fl_H) (o : fl_O), fl_ex C n m pc L st h = some o → fl_mn h o.2
  | 0, _, _, _, _, _, _, hx => by cases hx
  | n + 1, m, pc, L, st, h, o, hx => by
    rw [fl_ex] at hx
    cases hc : C m pc with
    | none => rw [hc] at hx; cases hx
    | some e =>
      rw [hc] at hx
      exact fl_phi_mn (fun pc L st h' z => fl_ex_mn n m pc _ st h' o z) (fun a as h' r z => fl_ex_mn n a 0 _ [] h' r z) _ (fl_step_mn e pc) hx
end
section
/-! THE WALK: what the abstract machine comes to, the machine comes to -/
theorem fl_grp_cases (ins : Instr) : fl_grp ins = 0 ∨ fl_grp ins = 1 ∨ fl_grp ins = 2 ∨ fl_grp ins = 3 ∨ fl_grp ins = 4 ∨ fl_grp ins = 5 ∨ fl_grp ins = 6 ∨ fl_grp ins = 7 ∨ fl_grp ins = 8 ∨ fl_grp ins = 9 := by
  cases ins <;> simp [fl_grp]
theorem fl_grp0 {ins : Instr} (h0 : fl_grp ins = 0) {len a b c d p pc : Nat} {x : Int32} {q : Int64} {sw : List (Int32 × Nat)} {lv : Option (List Bool)} {L : fl_L} {st : List Value} {h : fl_H} : fl_step (ins, len, a, b, c, d, p, x, q, sw, lv) pc L st h = none := by
  cases ins <;> first | rfl | (simp [fl_grp] at h0)
theorem fl_no9 (n : Nat) (as : List Value) (h : fl_H) : fl_ex fl_C n 9999 0 (fl_lb fl_C 9999 0 (fl_args as)) [] h = none := by
  cases n with
  | zero => rfl
  | succ n =>
    rw [fl_ex, show fl_C 9999 0 = none from rfl]
section FLW
variable {l : Launch} {D : va_G} {G : ClassId × ClassId × ClassId} {w : fl_V} {Ls : Nat} {xs : Nat → Int32}
theorem fl_walk (hokC : ∀ m pc e, fl_C m pc = some e → fl_ok m pc e = true) {p : Program} {e : Env} {R : Room} {s : State} {m : MethodId} {args : Array Value} {below : List Frame} {meth : Method} {c : Code} {Q : State → Prop} {k0 s0 mid : Nat} {o : fl_O}
    (hC : fl_Cx l D G w Ls xs mid p s m args meth c) (hRc : o.2.1.2.1 ≤ R.cells + k0) (hRs : o.2.1.2.2.1 ≤ R.slots + s0) (hRf : mid ≤ R.frames) (hRl : 64 * mid ≤ R.locals)
    (hcl : ∀ n a as h r, a < mid → fl_mok a = true → fl_cat as ≤ fl_mx a → fl_ex fl_C n a 0 (fl_lb fl_C a 0 (fl_args as)) [] h = some r → fl_Ct l D G w Ls xs a as h r)
    (hE : fl_End D G w Ls xs p l e R s m args below meth c Q k0 s0 mid o) (hT : fl_Thr D G w Ls xs p l e R s m args below meth c Q k0 s0 mid o) :
    ∀ (n pc : Nat) (L : fl_L) (st : List Value) (h : fl_H), fl_ex fl_C n mid pc L st h = some o → fl_Wd l D G w Ls xs p e R s m args below meth c Q k0 s0 mid pc L st h := by
  intro n
  induction n with
  | zero => intro pc L st h hx; cases hx
  | succ n ih =>
    intro pc L st h hx
    rw [fl_ex] at hx
    cases hc : fl_C mid pc with
    | none => rw [hc] at hx; cases hx
    | some e9 =>
      rw [hc] at hx
      dsimp only at hx
      have hok := hokC _ _ _ hc
      have nxt : ∀ pc L st h, (fun pc L st h => fl_ex fl_C n mid pc (fl_lb fl_C mid pc L) st h) pc L st h = some o → fl_Wd l D G w Ls xs p e R s m args below meth c Q k0 s0 mid pc L st h :=
        fun pc L st h hn H locs cells slots ls hR hS hq hc hs hL => ih pc _ st h hn H locs cells slots ls hR hS hq hc hs (hL.lb fl_C mid pc)
      have hmn : ∀ pc L st h, (fun pc L st h => fl_ex fl_C n mid pc (fl_lb fl_C mid pc L) st h) pc L st h = some o → h.1.2.1 ≤ o.2.1.2.1 ∧ h.1.2.2.1 ≤ o.2.1.2.2.1 :=
        fun pc L st h hn => ⟨(fl_ex_mn n mid pc _ st h o hn).1, (fl_ex_mn n mid pc _ st h o hn).2.1⟩
      obtain ⟨ins, len, a, b, c9, d9, p9, x9, q9, sw, lv⟩ := e9
      rcases fl_grp_cases ins with g | g | g | g | g | g | g | g | g | g
      · rw [fl_grp0 g] at hx; cases hx
      · exact fl_one1 hC nxt ins g hok hx
      · exact fl_one2 hC nxt hmn hRc hRs hE hT ins g hok hx
      · exact fl_one3 hC nxt hmn hRc hRs hRf hRl (fun a as h r ha hk hcat hr => hcl n a as h r ha hk hcat hr) (fun as h => fl_no9 n as h) ins g hok hx
      · exact fl_one4 hC nxt hmn hRc hRs hE hT ins g hok hx
      · exact fl_one5 hC nxt hmn hRc hRs hE hT ins g hok hx
      · exact fl_one6 hC nxt hmn hRc hRs hE hT ins g hok hx
      · exact fl_one7 hC nxt hmn hRc hRs hE hT ins g hok hx
      · exact fl_one8 hC nxt hmn hRc hRs hE hT ins g hok hx
      · exact fl_one9 hC nxt hmn hRc hRs hE hT ins g hok hx
theorem fl_sl_len (w : fl_V) (hw : fl_fm w) : ∀ as : List Value, (lg_sl (as.map (fl_cv w))).length = fl_cat as
  | [] => rfl
  | v :: as => by
    have ih := fl_sl_len w hw as
    have e : (lg_sl ((v :: as).map (fl_cv w))).length = (if (fl_cv w v).category = 2 then [Slot.val (fl_cv w v), Slot.second] else [Slot.val (fl_cv w v)]).length + (lg_sl (as.map (fl_cv w))).length := by
      unfold lg_sl
      rw [List.map_cons, List.flatMap_cons, List.length_append]
    rw [e, ih, fl_cv_cat hw]
    rw [show fl_cat (v :: as) = (match fl_two (some v) with | true => fl_cat as + 2 | false => fl_cat as + 1) from rfl]
    by_cases h2 : v.category = 2
    · rw [(fl_two_cat v).mpr h2, if_pos h2]; exact Nat.add_comm _ _
    · have h3 : fl_two (some v) = false := by
        cases hz : fl_two (some v) with
        | false => rfl
        | true => exact absurd ((fl_two_cat v).mp hz) h2
      rw [h3, if_neg h2]; exact Nat.add_comm _ _
/-- the context at a method's entry -/
theorem fl_enter {p : Program} {e : Env} {s s₁ : State} {m : MethodId} {args : Array Value} {below : List Frame} {meth : Method} {c : Code} {mid : Nat} {rm : Room} {as : List Value} {h : fl_H} (hl : l.stackTraces = false)
    (B : BodyLoose p l (fl_y mid) (headSpec (fl_wd mid) rm) (fl_bytes mid) (fl_mx mid) (fl_ret mid) e s m args below meth c s₁) (hml : c.maxLocals = fl_mx mid) (hP : fl_Pc D G w Ls xs as h args s) : fl_Cx l D G w Ls xs mid p s m args meth c := by
  have hts := atoms_spec (ws := fl_wd mid) B.pre
  refine ⟨B.exec, B.bytes, B.returns, hml, findClass_of_methodNamed B.named, fun x hx => hts x (List.mem_cons_of_mem _ hx), B.notSynchronized, fun z => (name_of_methodNamed B.named B.method).1.trans z, fun hh => ?_, hl, hP.2.2.1⟩
  exact vx_table (x := fl_y mid) B (hts (Cond.codeWith (fl_y mid) (fl_bytes mid) (fl_mx mid) (fl_ret mid) (fl_hh mid)) (by rw [fl_wd_cons hh]; exact List.mem_cons_self))
theorem fl_tab0 {p : Program} {e : Env} {s s₁ : State} {m : MethodId} {args : Array Value} {below : List Frame} {meth : Method} {c : Code} {mid : Nat} {rm : Room}
    (B : BodyLoose p l (fl_y mid) (headSpec (fl_wd mid) rm) (fl_bytes mid) (fl_mx mid) (fl_ret mid) e s m args below meth c s₁) : fl_hh mid = [] → c.exceptionTable.toList = [] := by
  intro hh
  have hts := atoms_spec (ws := fl_wd mid) B.pre
  obtain ⟨meth9, c9, h1, h2, -, -, -, -, h7, -⟩ := Cond.code_spec B.named (hts _ (by rw [fl_wd_nil hh]; exact List.mem_cons_self))
  cases Option.some.inj (h1.symm.trans B.method)
  cases Option.some.inj (h2.symm.trans (Stand.of_body B).code)
  rw [Array.isEmpty_iff.mp h7]
theorem fl_his {mid : Nat} {rm : Room} : ∀ (args : Array Value) (s : State) m, (headSpec (fl_wd mid) rm).pre.before args s = true → s.methodNamed? (fl_y mid) = some m → ∃ meth c, s.vm.method? m = some meth ∧ meth.code = some c ∧ c.code = fl_bytes mid ∧ c.maxLocals = fl_mx mid ∧ meth.sig.returnType = fl_ret mid ∧ meth.locks = false := by
  intro args s m h hn
  have hts := atoms_spec (ws := fl_wd mid) h
  by_cases hh : fl_hh mid = []
  · obtain ⟨meth, c, h1, h2, h3, h4, h5, h6, -, -⟩ := Cond.code_spec hn (hts _ (by rw [fl_wd_nil hh]; exact List.mem_cons_self))
    exact ⟨meth, c, h1, h2, h3, h4, h5, h6⟩
  · obtain ⟨m9, meth, c, hn9, h1, h2, h3, h4, -, h5, h6, -⟩ := Cond.codeWith_spec (hts (Cond.codeWith (fl_y mid) (fl_bytes mid) (fl_mx mid) (fl_ret mid) (fl_hh mid)) (by rw [fl_wd_cons hh]; exact List.mem_cons_self))
    cases hn.symm.trans hn9
    exact ⟨meth, c, h1, h2, h3, h4, h5, h6⟩
/-- from a method's entry to its end -/
theorem fl_body (hokC : ∀ m pc e, fl_C m pc = some e → fl_ok m pc e = true) (hl : l.stackTraces = false) {mid n : Nat} {as : List Value} {h : fl_H} {r : fl_O} (hcat : fl_cat as ≤ fl_mx mid) (hx : fl_ex fl_C n mid 0 (fl_lb fl_C mid 0 (fl_args as)) [] h = some r)
    (hcl : ∀ n a as h r, a < mid → fl_mok a = true → fl_cat as ≤ fl_mx a → fl_ex fl_C n a 0 (fl_lb fl_C a 0 (fl_args as)) [] h = some r → fl_Ct l D G w Ls xs a as h r)
    {p : Program} {e : Env} {R : Room} {s : State} {m : MethodId} {args : Array Value} {below : List Frame} {meth : Method} {c : Code} {Q : State → Prop} (hC : fl_Cx l D G w Ls xs mid p s m args meth c) (hP : fl_Pc D G w Ls xs as h args s)
    (hRc : r.2.1.2.1 ≤ R.cells + h.1.2.1) (hRs : r.2.1.2.2.1 ≤ R.slots + h.1.2.2.1) (hRf : mid ≤ R.frames) (hRl : 64 * mid ≤ R.locals)
    (hE : fl_End D G w Ls xs p l e R s m args below meth c Q h.1.2.1 h.1.2.2.1 mid r) (hT : fl_Thr D G w Ls xs p l e R s m args below meth c Q h.1.2.1 h.1.2.2.1 mid r) : W p l e R s m args below meth c s.heap [] 0 0 Q (entryFrame m args (fl_mx mid)) := by
  have hw : fl_fm w := hP.2.2.1.2.2.2.2.2.2.2.2.2.2.2
  have hl9 := lv_entry (as.map (fl_cv w)) (n := fl_mx mid) (by rw [fl_sl_len w hw]; exact hcat)
  rw [hP.1, lg_entry_eq]
  generalize (lg_sl (as.map (fl_cv w)) ++ List.replicate (fl_mx mid - (lg_sl (as.map (fl_cv w))).length) Slot.unset).toArray = ls at hl9 ⊢
  have hLR := (fl_LR.entry hw as hl9).lb fl_C mid 0
  rw [← hP.1]
  exact fl_walk hokC hC hRc hRs hRf hRl hcl hE hT n 0 _ [] h hx s.heap [] 0 0 ls hP.2.1 va_S.rf hP.2.2.2 (Nat.zero_add _) (Nat.zero_add _) hLR
theorem fl_R.th {h : fl_H} {H H1 : Heap} (hR : fl_R D G w Ls xs h H) (hk : ∀ q : Nat, q < H.size → H1[q]? = H[q]?) : fl_R D G w Ls xs (fl_th h) H1 := by
  obtain ⟨r1, r2, r3, r4, r5⟩ := hR
  have e9 : fl_ws G w (fl_th h) = fl_ws G w h := by
    unfold fl_ws
    exact List.map_congr_left (fun k _ => by rw [fl_cell_congr (h := h) (h' := fl_th h) rfl rfl rfl rfl])
  refine ⟨fun k q hq => ?_, fun (z : false = true) => Bool.noConfusion z, r3, r4, r5⟩
  rw [e9] at hq
  have := r1 k q hq
  exact this.kept (hk _ this.lt)
/-- a throw out of a method -/
theorem fl_throw (hl : l.stackTraces = false) {p : Program} {e : Env} {R : Room} {s : State} {m : MethodId} {args : Array Value} {below : List Frame} {meth : Method} {c : Code} {mid mc ms k0 s0 : Nat} {r : fl_O} {Qc : Array Value → State → Outcome → State → Prop}
    (hC : fl_Cx l D G w Ls xs mid p s m args meth c) (ht0 : fl_hh mid = [] → c.exceptionTable.toList = []) (hRf : mid ≤ R.frames) (hRl : 64 * mid ≤ R.locals) (hRc : R.cells = mc) (hRs : R.slots = ms) (hmc : r.2.1.2.1 = mc + k0) (hms : r.2.1.2.2.1 = ms + s0) :
    fl_Thr D G w Ls xs p l e R s m args below meth c (vx_MQ below Qc (fl_XC D G w Ls xs r) args s mc ms (fl_Af w)) k0 s0 mid r := by
  intro ik pc st h L hth hcat ho H locs cells slots ls hR hS hq hc hs hL
  obtain ⟨hx, hb, hr, hml, hown, hts, hlk, hnm, het, hst, hEX⟩ := id hC
  have hw : fl_fm w := hEX.2.2.2.2.2.2.2.2.2.2.2
  unfold fl_thok at hth
  split at hth
  · rename_i ic hd4
    simp only [Bool.and_eq_true, decide_eq_true_eq] at hth
    obtain ⟨⟨⟨⟨⟨⟨⟨d0, d3⟩, d7⟩, t1⟩, t2⟩, t3⟩, t4⟩, t5⟩ := hth
    have hcn : r.2.1.2.1 = h.1.2.1 + 1 := by rw [ho]; rfl
    have hsn : r.2.1.2.2.1 = h.1.2.2.1 + 6 := by rw [ho]; rfl
    have tx : ∀ x ∈ vx_at0 (fl_y mid).cls ic fl_nsee fl_names, fl_tx x = true := fun x hx => List.all_eq_true.mp t3 x hx
    have hxt : ∀ x, fl_tx x = true → x.before args s = true ∧ vx_ot x = true := by
      intro x hx
      simp only [fl_tx, Bool.and_eq_true, Bool.or_eq_true, decide_eq_true_eq] at hx
      obtain ⟨h1, h2⟩ := hx
      rcases h2 with h2 | ⟨h2, h3⟩
      · exact ⟨hts x (List.mem_filter.mpr ⟨h1, h2⟩), by unfold vx_ot; rw [h2]; exact Bool.or_true _⟩
      · exact ⟨va_Nw.use h2 (hEX.2.1.2 x h1 h3), by unfold vx_ot; rw [h2]; rfl⟩
    refine vx_throw0 (A := fl_Af w) (names := fl_names) (ic := ic) hx hb hl hown (by decide +kernel) (by decide +kernel) (hts _ (fl_tm_mem t1)) (hts _ (fl_tm_mem t2)) (fun x hx => (hxt x (tx x hx)).1) ?_ hEX.2.2.2.2.2.2.1 hEX.2.2.2.2.2.2.2.1 hS (hL.1.trans hml.symm) d0 d3 hd4 d7 ?_ ?_ ?_ (by omega) (by omega) hlk ?_ hS.2.2 (by omega) (by omega)
    · intro x hx
      rcases List.mem_cons.mp hx with e1 | hx
      · rw [e1]; unfold vx_ot; rw [(List.mem_filter.mp (fl_tm_mem t1)).2]; exact Bool.or_true _
      · rcases List.mem_cons.mp hx with e1 | hx
        · rw [e1]; unfold vx_ot; rw [(List.mem_filter.mp (fl_tm_mem t2)).2]; exact Bool.or_true _
        · exact (hxt x (tx x hx)).2
    · rw [ht0 t5]
      intro x hx
      cases hx
    · show 2 + 3 < R.frames
      omega
    · show ((st.map (fl_cv w)).map fun v => v.category).sum + (13 * (2 + 1) + 42) ≤ R.locals
      rw [fl_cat_eq hw]
      omega
    · intro t h1 h2 h3
      refine ⟨rfl, by rw [ho]; exact hR.th h3, Nat.le_trans hS.1 h2, fun q z1 z2 => ?_⟩
      rw [h3 q (Nat.lt_of_lt_of_le z1 hS.1)]
      exact hS.2.1 q z1 z2
  · cases hth
/-- a method's contract -/
theorem fl_met (hokC : ∀ m pc e, fl_C m pc = some e → fl_ok m pc e = true) (hl : l.stackTraces = false) {mid n : Nat} {as : List Value} {h : fl_H} {r : fl_O} (hmk : fl_mok mid = true) (hcat : fl_cat as ≤ fl_mx mid) (hx : fl_ex fl_C n mid 0 (fl_lb fl_C mid 0 (fl_args as)) [] h = some r)
    (hcl : ∀ n a as h r, a < mid → fl_mok a = true → fl_cat as ≤ fl_mx a → fl_ex fl_C n a 0 (fl_lb fl_C a 0 (fl_args as)) [] h = some r → fl_Ct l D G w Ls xs a as h r) : fl_Ct l D G w Ls xs mid as h r := by
  obtain ⟨c1, c2, c3⟩ := fl_ex_mn n mid 0 _ [] h r hx
  obtain ⟨m1, m2, m3, m4, m5⟩ := fl_mok_spec hmk
  refine ⟨c1, c2, c3, fun v hv => ?_, fun hv => ?_⟩
  · refine MetFree.of_bodySF (code := fl_bytes mid) (maxLocals := fl_mx mid) (ret := fl_ret mid) m5 fl_his ?_
    intro p e s m args below meth c s₁ B hml hP _
    have hh0 : s₁.heap = s.heap := by rw [B.state]; rfl
    have hC := fl_enter hl B hml hP
    obtain ⟨hx9, hb, hr, -, -, -, hlk, -, -, -, -⟩ := id hC
    have K : W p l e (headSpec (fl_wd mid) (fl_rm mid (r.2.1.2.1 - h.1.2.1) (r.2.1.2.2.1 - h.1.2.2.1))).room s m args below meth c s.heap [] 0 0 (MQ below (fl_Qc D G w Ls xs r) args s (r.2.1.2.1 - h.1.2.1) (r.2.1.2.2.1 - h.1.2.2.1) (fl_Af w)) (entryFrame m args (fl_mx mid)) := by
      refine fl_body hokC hl hcat hx hcl hC hP (by show _ ≤ (r.2.1.2.1 - h.1.2.1) + h.1.2.1; omega) (by show _ ≤ (r.2.1.2.2.1 - h.1.2.2.1) + h.1.2.2.1; omega) (Nat.le_refl _) (Nat.le_refl _) ?_ ?_
      · intro ins v9 pc H locs cells slots ls hd hrok ho hR hS hc hs
        have ec : cells = r.2.1.2.1 - h.1.2.1 := by omega
        have es : slots = r.2.1.2.2.1 - h.1.2.2.1 := by omega
        rw [← ec, ← es]
        have hq : ∀ (ov : Option Value) (t : State), v9.map (fl_cv w) = ov → t.heap = H → s.WarmedH t.vm → fl_Qc D G w Ls xs r args s (.returned ov) t := fun ov t e1 ht hW => ⟨⟨v9, ho, by rw [e1]⟩, by rw [ht]; exact hR, hS.F ht⟩
        cases ins
        case ireturn =>
          obtain ⟨x, ty, rfl, h1, h2⟩ := hrok
          exact W.zret hx9 hb (hr.trans h1) h2 (fun t => hq _ t rfl) hS.2.2 hd hlk
        case lreturn =>
          obtain ⟨x, rfl, h1⟩ := hrok
          exact W.lret hx9 hb (hr.trans h1) (fun t => hq _ t rfl) hS.2.2 hd hlk
        case return_ =>
          obtain ⟨rfl, h1⟩ := hrok
          exact W.vret hx9 hb (hr.trans h1) (fun t => hq _ t rfl) hS.2.2 hd hlk
        all_goals (exact False.elim hrok)
      · intro ik pc st h9 L hth hcat9 ho
        rw [ho] at hv
        cases hv
    obtain ⟨t, a1, o, b1, b2, b3⟩ := K s₁ hh0 (Stand.of_body B)
    exact ⟨t, o, a1, b1, b2, ⟨b3.1, b3.2⟩⟩
  · refine MetFree.of_bodySF (code := fl_bytes mid) (maxLocals := fl_mx mid) (ret := fl_ret mid) m5 fl_his ?_
    intro p e s m args below meth c s₁ B hml hP _
    have hh0 : s₁.heap = s.heap := by rw [B.state]; rfl
    have hC := fl_enter hl B hml hP
    have K : W p l e (headSpec (fl_wd mid) (fl_rm mid (r.2.1.2.1 - h.1.2.1) (r.2.1.2.2.1 - h.1.2.2.1))).room s m args below meth c s.heap [] 0 0 (vx_MQ below (fl_Qc D G w Ls xs r) (fl_XC D G w Ls xs r) args s (r.2.1.2.1 - h.1.2.1) (r.2.1.2.2.1 - h.1.2.2.1) (fl_Af w)) (entryFrame m args (fl_mx mid)) := by
      refine fl_body hokC hl hcat hx hcl hC hP (by show _ ≤ (r.2.1.2.1 - h.1.2.1) + h.1.2.1; omega) (by show _ ≤ (r.2.1.2.2.1 - h.1.2.2.1) + h.1.2.2.1; omega) (Nat.le_refl _) (Nat.le_refl _) ?_ (fl_throw hl hC (fl_tab0 B) (Nat.le_refl _) (Nat.le_refl _) rfl rfl (by omega) (by omega))
      intro ins v9 pc H locs cells slots ls hd hrok ho hR hS hc hs
      rw [hv] at ho
      cases ho
    obtain ⟨t, a1, o, b1, b2, b3⟩ := K s₁ hh0 (Stand.of_body B)
    exact ⟨t, o, a1, b1, b2, b3⟩
/-- every method's contract -/
theorem fl_all (hokC : ∀ m pc e, fl_C m pc = some e → fl_ok m pc e = true) (hl : l.stackTraces = false) : ∀ mid n as h r, fl_mok mid = true → fl_cat as ≤ fl_mx mid → fl_ex fl_C n mid 0 (fl_lb fl_C mid 0 (fl_args as)) [] h = some r → fl_Ct l D G w Ls xs mid as h r := by
  intro mid
  induction mid using Nat.strongRecOn with
  | ind mid ih =>
    intro n as h r hmk hcat hx
    exact fl_met hokC hl hmk hcat hx (fun n a as h r ha hk hc hx => ih a ha n as h r hk hc hx)
end FLW
end
section
/-! THE CLAIM OUT OF ONE WALK OF THE LAW'S BODY. Your part is whole_start (and what it stands on); all else here is the same for every law, but numbers. -/
def R_law : String := "FaultListsLaw"
def lw_P (b : Addr) (xs : List Int32) (args : Array Value) (s : State) : Prop := args = #[.ref b] ∧ s.IntsAt b xs ∧ xs.length ≤ 1536 ∧ (Jvm.Cond.and given_1 narrow_1).before args s = true
def lw_Q (_ : Array Value) (s : State) (o : Outcome) (t : State) : Prop := o = .returned (some (.int 1)) ∧ Framed s o t [] 601024 7293034
def lw_Z (below : List Frame) (a : Array Value) (s : State) : State → Prop := fun t => ∃ o, t.status = .running ∧ Ended t below o ∧ lw_Q a s o t
/-- the law's own end, with 1 on the stack, nothing written that was there before, its room as the claim has it -/
theorem lw_ret {p : Program} {l : Launch} {e : Env} {s : State} {m : MethodId} {below : List Frame} {meth : Method} {c : Code} {b : Nat} (hx : p.tables.exec = Jvm.exec) (hb : c.code = code) (hr : meth.sig.returnType = ret) (hlocks : meth.locks = false) {pc : Nat} {H : Heap} {ls : Array Slot} (hdg : decode code pc = .ok (.ireturn, 1)) : W p l e room_1 s m #[Value.ref b] below meth c H [] 601024 7293034 (lw_Z below #[Value.ref b] s) (F0 m pc ls [.int 1]) := by
  intro T hT X
  obtain ⟨fs, hret, hrun, hended, hW, hframe⟩ := X.leave (v := some (.int 1)) (hlocks := hlocks) (fun h => by rw [hr] at h; cases h)
  have hmeth' : T.vm.method? m = some meth := X.method'
  refine ⟨T.setFrames fs, ?_, .returned (some (.int 1)), hrun, hended, rfl, ⟨_, rfl⟩, hW, hframe⟩
  jvm_step X.here [X.here.top, hx, hb, hdg, hmeth', hr, ret, narrow_b1]
  (try refine ⟨rfl, ?_⟩); (try refine ⟨rfl, ?_⟩)
  first | (intro acts; rw [hret _ acts rfl rfl rfl]) | rw [hret _ _ rfl rfl rfl]
  exact Steps.refl _
/-- what holds at the law's entry: the machine, the code, the tables' words (any of lw_tbl by 'hts w (by decide +kernel)'), the script of L ints xs at the cell b, what the Statement gives of the start (any of its parts by flat_of_before) -/
def lw_At (p : Program) (s : State) (m : MethodId) (meth : Method) (c : Code) (b L : Nat) (xs : Nat → Int32) : Prop :=
  p.tables.exec = Jvm.exec ∧ c.code = code ∧ meth.sig.returnType = ret ∧ c.maxLocals = 8 ∧ s.vm.findClass R_law = some m.cls ∧ (∀ w ∈ lw_tbl, w.before #[Value.ref b] s = true) ∧ va_X b L xs s s.heap ∧ b < s.heap.size ∧ meth.locks = false ∧ (Jvm.Cond.and given_1 narrow_1).before #[Value.ref b] s = true
/-- the heap at the law's entry -/
def fl_h0 (Ls : Nat) (xs : Nat → Int32) : fl_H := ((0, 0, 0, true), (fun k => if k < 1048576 then (0, 0) else if k < 1048583 then (7, k - 1048576) else if k < 1048592 then (0, 0) else if k < 1048599 then (5, fl_slen.getD (k - 1048592) 0) else if k = 1048608 then (6, Ls) else (0, 0)), (fun _ _ => none), (fun k j => if k = 1048608 then xs j else (fl_sbyt.getD (k - 1048592) []).getD j 0), (fun _ _ => 0))
theorem fl_h0_k (Ls : Nat) (xs : Nat → Int32) (k : Nat) : fl_k (fl_h0 Ls xs) k = if k < 1048576 then (0, 0) else if k < 1048583 then (7, k - 1048576) else if k < 1048592 then (0, 0) else if k < 1048599 then (5, fl_slen.getD (k - 1048592) 0) else if k = 1048608 then (6, Ls) else (0, 0) := rfl
theorem fl_h0_X (Ls : Nat) (xs : Nat → Int32) : fl_X Ls xs (fl_h0 Ls xs) := by
  intro k hk
  rw [fl_h0_k, if_neg (by omega)]
  by_cases h1 : k < 1048583
  · exact Or.inl ⟨h1, by rw [if_pos h1]⟩
  · rw [if_neg h1]
    by_cases h2 : k < 1048592
    · rw [if_pos h2]; exact Or.inr (Or.inr (Or.inr rfl))
    · rw [if_neg h2]
      by_cases h3 : k < 1048599
      · refine Or.inr (Or.inl ⟨by omega, h3, by rw [if_pos h3], ?_⟩)
        funext j
        show (if k = 1048608 then xs j else _) = _
        rw [if_neg (by omega)]
      · rw [if_neg h3]
        by_cases h4 : k = 1048608
        · refine Or.inr (Or.inr (Or.inl ⟨h4, by rw [if_pos h4], ?_⟩))
          funext j
          show (if k = 1048608 then xs j else _) = _
          rw [if_pos h4]
        · rw [if_neg h4]; exact Or.inr (Or.inr (Or.inr rfl))
theorem fl_h0_R {D : va_G} {G : ClassId × ClassId × ClassId} {w : fl_V} {Ls : Nat} {xs : Nat → Int32} {H : Heap} : fl_R D G w Ls xs (fl_h0 Ls xs) H := by
  refine ⟨fun k q hq => ?_, fun _ => rfl, fun k hk => ?_, Nat.zero_le _, fl_h0_X Ls xs⟩
  · have hq : (([] : va_W))[k]? = some q := hq
    cases hq
  · rw [fl_h0_k, if_pos hk]
    exact ⟨Nat.zero_lt_succ _, fun _ => rfl⟩
/-- the String constants' words -/
def fl_t9 (i : Nat) : Term := match i with
  | 0 => .string "FaultLists$Reader" 74
  | 1 => .string "FaultListsModel" 162
  | 2 => .string "FaultListsModel" 164
  | 3 => .string "FaultListsModel" 142
  | 4 => .string "FaultListsModel" 157
  | 5 => .string "FaultListsModel" 169
  | _ => .string "FaultListsModel" 239
def fl_fl : List Cond := flatC (Jvm.Cond.and given_1 narrow_1)
set_option maxRecDepth 20000 in
theorem fl_s1 : ∀ i, i < 7 → Cond.exactly (fl_t9 i) "java/lang/String" ∈ fl_fl := by decide +kernel
set_option maxRecDepth 20000 in
theorem fl_s2 : ∀ i, i < 7 → Cond.eq (.field (fl_t9 i) "java/lang/String" "coder" "B") (.int 0) ∈ fl_fl := by decide +kernel
set_option maxRecDepth 20000 in
theorem fl_s3 : ∀ i, i < 7 → Cond.arrayOf (.field (fl_t9 i) "java/lang/String" "value" "[B") .byte ∈ fl_fl := by decide +kernel
set_option maxRecDepth 20000 in
theorem fl_s4 : ∀ i, i < 7 → Cond.eq (.length (.field (fl_t9 i) "java/lang/String" "value" "[B")) (.int (Int32.ofNat (fl_slen.getD i 0))) ∈ fl_fl := by decide +kernel
set_option maxRecDepth 20000 in
theorem fl_s5 : ∀ i, i < 7 → ∀ j, j < fl_slen.getD i 0 → Cond.eq (.elem (.field (fl_t9 i) "java/lang/String" "value" "[B") (.int (Int32.ofNat j))) (.int ((fl_sbyt.getD i []).getD j 0)) ∈ fl_fl := by decide +kernel
set_option maxRecDepth 20000 in
theorem fl_s6 : ∀ i, i < 7 → ∀ j, j < 7 → i ≠ j → (Cond.not (Cond.eq (fl_t9 i) (fl_t9 j)) ∈ fl_fl ∨ Cond.not (Cond.eq (fl_t9 j) (fl_t9 i)) ∈ fl_fl) := by decide +kernel
theorem fl_eqr {args : Array Value} {s : State} {t1 t2 : Term} {a : Nat} (h : (Cond.eq t1 t2).before args s = true) (h1 : t1.eval args s none [] s = some (.ref a)) : t2.eval args s none [] s = some (.ref a) := by
  cases hv : t2.eval args s none [] s with
  | none => simp [Cond.before, Cond.holds, Cond.value, h1, hv] at h
  | some x =>
    simp only [Cond.before, Cond.holds, Cond.value, h1, hv] at h
    cases x <;> simp_all
theorem fl_w1 : ∀ i, i < 12 → Cond.instantiable (fl_cl0 i).1 (fl_cl0 i).2.2 ∈ lw_tbl := by decide +kernel
theorem fl_w2 : ∀ x ∈ fl_nest, Cond.methodLinkNest x.1 x.2.1 x.2.2.1 x.2.2.2 ∈ lw_tbl := by decide +kernel
theorem fl_w3 : ∀ x ∈ fl_strs, Cond.stringRef x.1 x.2.1 x.2.2.1 ∈ lw_tbl := by decide +kernel
theorem fl_arr {args : Array Value} {s : State} {ty : FieldType} (h : (Cond.arrayClass ty).before args s = true) (hty : ∀ C, ty ≠ .object C) : ∃ cA, ArrOfT s cA ty ∧ va_RA s cA ty := by
  obtain ⟨cA, k, comp, h1, h2, h3⟩ := Cond.arrayClass_spec h
  refine ⟨cA, fun n z => ⟨(fun k h => by cases h), k, h2, comp, h3⟩, ?_⟩
  cases ty with
  | object C => exact absurd rfl (hty C)
  | _ => exact h1
set_option maxHeartbeats 1000000 in
/-- what holds at the law's entry -/
theorem fl_entry {p : Program} {s : State} {m : MethodId} {meth : Method} {c : Code} {b L : Nat} {xs : Nat → Int32} (C0 : lw_At p s m meth c b L xs) : ∃ (D : va_G) (G : ClassId × ClassId × ClassId) (w : fl_V), fl_EX D G w L xs s s.heap ∧ w.1 = s.heap.size ∧ w.2.2.2.1 = b := by
  obtain ⟨hx, hb, hr, hml, hown, hts, hX, hbl, hlocks, hgv⟩ := id C0
  have hs : ∀ q ∈ fl_fl, q.before #[Value.ref b] s = true := flat_of_before _ hgv
  have hA : ∀ a : Nat, a < s.heap.size → ¬ (fun q : Nat => s.heap.size ≤ q) a := fun a h => Nat.not_le.mpr h
  have hcls : ∀ i : Nat, ∃ q : ClassId × (Nat → Nat), i < 12 → u_Kn s (fl_cl0 i).1 (fl_cl0 i).2.1 (fl_cl0 i).2.2 q.1 q.2 := by
    have key : ∀ i, i < 12 → ∃ q : ClassId × (Nat → Nat), u_Kn s (fl_cl0 i).1 (fl_cl0 i).2.1 (fl_cl0 i).2.2 q.1 q.2 := by
      intro i hi
      obtain ⟨-, -, -, e4, -⟩ := fl_cls i hi
      obtain ⟨cC, iS, h⟩ := u_known hts (fun x hx => (List.mem_filter.mp (e4 x hx)).1) (hts _ (fl_w1 i hi))
      exact ⟨(cC, iS), h⟩
    intro i
    by_cases hi : i < 12
    · obtain ⟨q, h⟩ := key i hi
      exact ⟨q, fun _ => h⟩
    · obtain ⟨q, -⟩ := key 0 (by decide)
      exact ⟨q, fun h => absurd h hi⟩
  obtain ⟨f, hf⟩ := Classical.axiomOfChoice hcls
  obtain ⟨g1, a1, b1⟩ := fl_arr (ty := .int) (hts _ (by decide +kernel)) (fun C h => by cases h)
  obtain ⟨g2, a2, b2⟩ := fl_arr (ty := .long) (hts _ (by decide +kernel)) (fun C h => by cases h)
  obtain ⟨g3, a3, b3⟩ := fl_arr (ty := .boolean) (hts _ (by decide +kernel)) (fun C h => by cases h)
  obtain ⟨adK, adV, hvs, hve⟩ := vk_Sof (N := 7) (tm := fl_t9) (len := fl_slen) (byt := fl_sbyt) (by decide +kernel) (fun i hi => hs _ (fl_s1 i hi)) (fun i hi => hs _ (fl_s2 i hi)) (fun i hi => hs _ (fl_s3 i hi)) (fun i hi => hs _ (fl_s4 i hi)) (fun i hi j hj => hs _ (fl_s5 i hi j hj))
    (fun i j hi hj hij => (fl_s6 i hi j hj hij).imp (hs _) (hs _)) hA
  have hz1 := va_Zof (C := "java/lang/String") (n := "COMPACT_STRINGS") (d := "Z") (v := .int 1) (hts _ (by decide +kernel)) (hts _ (by decide +kernel)) (va_eqi (hs _ (by decide +kernel))) hA
  have hz2 := va_Zqof (C := "jdk/internal/util/Preconditions") (n := "SIOOBE_FORMATTER") (d := "Ljava/util/function/BiFunction;") (hts _ (by decide +kernel)) (hts _ (by decide +kernel)) (hs _ (by decide +kernel)) hA
  have hz3 := vx_Zqof (C := Bundle.tN) (n := "UNASSIGNED_STACK") (d := Bundle.steD) (hts _ (by decide +kernel)) (hts _ (by decide +kernel)) (hs _ (by decide +kernel)) hA
  have hz4 := vx_Zqof (C := Bundle.tN) (n := "SUPPRESSED_SENTINEL") (d := Bundle.listD) (hts _ (by decide +kernel)) (hts _ (by decide +kernel)) (hs _ (by decide +kernel)) hA
  obtain ⟨fmt, hcat, hfmt⟩ : ∃ fmt : Value, fmt.category = 1 ∧ va_Z "jdk/internal/util/Preconditions" "SIOOBE_FORMATTER" "Ljava/util/function/BiFunction;" fmt (fun q : Nat => s.heap.size ≤ q) s s.heap := by
    rcases hz2 with h | ⟨t, h⟩
    · exact ⟨.null, rfl, h⟩
    · exact ⟨.ref t, rfl, h⟩
  refine ⟨(fun i => (f i).1, fun i => (f i).2), (g1, g2, g3), (s.heap.size, adK, adV, b, fmt), ⟨⟨fun k q hk => ?_, fun k q hk => ?_⟩, ⟨fun x hx => va_Nw.of rfl (hts _ (fl_w2 x hx)), fun q hq hk => ?_⟩, ?_, hvs, hz1, hfmt, hz3, hz4, hX, hbl, Nat.le_refl _, hcat⟩, rfl, rfl⟩
  · have h12 : k < 12 := (List.getElem?_eq_some_iff.mp hk).1
    obtain ⟨e1, -⟩ := fl_cls k h12
    cases Option.some.inj (hk.symm.trans e1)
    exact hf k h12
  · match k, hk with
    | 0, hk => cases hk; exact ⟨a1, b1⟩
    | 1, hk => cases hk; exact ⟨a2, b2⟩
    | 2, hk => cases hk; exact ⟨a3, b3⟩
    | k + 3, hk => simp at hk
  · have h9 : q.before #[] (s.setVm s.vm) = true := Cond.tabsOnly_warm (args' := #[]) (T := s) (State.WarmedH.refl s) q hk (hts q hq)
    rw [State.setVm_self] at h9
    exact h9
  · have ev : ∀ i, i < 7 → (fl_t9 i).eval #[Value.ref b] s none [] s = some (.ref (adK i)) := hve
    have e8 : (Term.string "FaultListsModel" 148).eval #[Value.ref b] s none [] s = some (.ref (adK 0)) := fl_eqr (t1 := fl_t9 0) (hs _ (by decide +kernel)) (ev 0 (by decide))
    have fin : ∀ x ∈ fl_strs, (Term.string x.1 x.2.1).eval #[Value.ref b] s none [] s = some (.ref (adK x.2.2.2)) → vk_R x.1 x.2.1 x.2.2.1 (adK x.2.2.2) s := fun x hx h => vk_R.of (hts _ (fl_w3 x hx)) h
    have all : ∀ x ∈ fl_strs, (Term.string x.1 x.2.1).eval #[Value.ref b] s none [] s = some (.ref (adK x.2.2.2)) := by
      refine List.forall_mem_cons.mpr ⟨ev 0 (by decide), List.forall_mem_cons.mpr ⟨ev 1 (by decide), List.forall_mem_cons.mpr ⟨ev 2 (by decide), List.forall_mem_cons.mpr ⟨e8, List.forall_mem_cons.mpr ⟨ev 3 (by decide), List.forall_mem_cons.mpr ⟨ev 4 (by decide), List.forall_mem_cons.mpr ⟨ev 5 (by decide), List.forall_mem_cons.mpr ⟨ev 6 (by decide), fun _ h => absurd h List.not_mem_nil⟩⟩⟩⟩⟩⟩⟩⟩
    exact fun x hx => fin x hx (all x hx)
theorem fl_265 : fl_bytes 265 = code ∧ fl_mx 265 = 8 ∧ fl_ret 265 = ret ∧ (fl_y 265).cls = R_law ∧ (fl_y 265).name ≠ "<init>" ∧ fl_hh 265 = [] := ⟨rfl, rfl, rfl, rfl, by decide +kernel, rfl⟩
set_option maxHeartbeats 1000000 in
/-- THE LAW comes to its end when the abstract machine does -/
theorem fl_start (hokC : ∀ m pc e, fl_C m pc = some e → fl_ok m pc e = true) {p : Program} {e : Env} {s : State} {m : MethodId} {below : List Frame} {meth : Method} {c : Code} (l : Launch) (hflags : l.flags = flags0) {b L : Nat} {xs : Nat → Int32} (C0 : lw_At p s m meth c b L xs)
    {n : Nat} {r : fl_O} (hrun : fl_ex fl_C n 265 0 (fl_lb fl_C 265 0 (fl_args [.ref 1048608])) [] (fl_h0 L xs) = some r) (h1 : r.1 = some (some (.int 1))) (h2 : r.2.1.2.1 ≤ 601024) (h3 : r.2.1.2.2.1 ≤ 7293034) : W p l e room_1 s m #[Value.ref b] below meth c s.heap [] 0 0 (lw_Z below #[Value.ref b] s) (entryFrame m ([Value.ref b] : List Value).toArray 8) := by
  obtain ⟨D, G, w, hEX, hw1, hw2⟩ := fl_entry C0
  obtain ⟨hx, hb, hr, hml, hown, hts, hX, hbl, hlocks, hgv⟩ := id C0
  obtain ⟨q1, q2, q3, q4, q5, q6⟩ := fl_265
  have hl : l.stackTraces = false := by
    unfold Launch.stackTraces
    rw [hflags]
    decide +kernel
  have hC : fl_Cx l D G w L xs 265 p s m #[Value.ref b] meth c := ⟨hx, by rw [q1]; exact hb, by rw [q3]; exact hr, by rw [q2]; exact hml, by rw [q4]; exact hown, fun x hx => hts x (List.mem_filter.mp hx).1, hlocks, fun z => absurd z q5, fun z => absurd q6 z, hl, hEX⟩
  have hP : fl_Pc D G w L xs [.ref 1048608] (fl_h0 L xs) #[Value.ref b] s := by
    refine ⟨?_, fl_h0_R, hEX, fun _ => by rw [hw1]; rfl⟩
    show #[Value.ref b] = #[Value.ref (fl_ad w 1048608)]
    have : fl_ad w 1048608 = b := by
      unfold fl_ad
      rw [if_neg (by decide), if_neg (by decide), if_neg (by decide), hw2]
    rw [this]
  have K := fl_body (R := room_1) (below := below) (e := e) (Q := lw_Z below #[Value.ref b] s) hokC hl (by rw [q2]; decide) hrun (fun n a as h r _ hk hc hx => fl_all hokC hl a n as h r hk hc hx) hC hP (by show _ ≤ 601024 + 0; omega) (by show _ ≤ 7293034 + 0; omega) (by show 265 ≤ 2048; decide) (by show 64 * 265 ≤ 84000; decide) (fun ins v9 pc H locs cells slots ls hd hrok ho hR hS hc hs => ?_) (fun ik pc st h9 L9 hth hcat9 ho => ?_)
  · rw [q2] at K
    exact K
  · cases Option.some.inj (h1.symm.trans ho)
    have hd9 : decode code pc = .ok (.ireturn, 1) := by
      rw [← q1]
      cases ins
      case ireturn => exact hd
      case lreturn => obtain ⟨x, hx9, -⟩ := hrok; cases hx9
      case return_ => obtain ⟨hx9, -⟩ := hrok; cases hx9
      all_goals (exact False.elim hrok)
    refine va_forget (fun q hq => by have := hS.2.2 q hq; rw [← hw1]; exact this) ?_
    have hc0 : cells + 0 = r.2.1.2.1 := hc
    have hs0 : slots + 0 = r.2.1.2.2.1 := hs
    refine W.widen (k := 601024) (n := 7293034) (by omega) (by omega) ?_
    exact lw_ret hx hb hr hlocks hd9
  · rw [ho] at h1
    cases h1
end
section
/-! BLOCK EQUATIONS (printed by wip/whole/bgen.py 20 24 105 205 69) -/
-- FaultLists$Cells.put(IJ)V
set_option maxRecDepth 100000 in
theorem fbE_20 (h : fl_H) (this : Nat) (p0 : Int32) (p1 : Int64) : fl_cl fl_C 20 [.ref this, .int p0, .long p1] h = if (decide (p0 < 0)) = true then (fl_Rn fl_C 20 20 [] [] h) else (if (decide (fl_k h this = (1, 1)) && (fl_r h this 0).isSome) = true then (if (decide ((fl_k h ((fl_r h this 0).getD 0)).1 = 3)) = true then (if (decide ((Int32.ofNat (fl_k h ((fl_r h this 0).getD 0)).2) ≤ p0)) = true then (fl_Rn fl_C 20 20 [] [] h) else (if (decide (fl_k h this = (1, 1)) && (fl_r h this 0).isSome) = true then (if (decide ((fl_k h ((fl_r h this 0).getD 0)).1 = 3) && fl_in p0 (fl_k h ((fl_r h this 0).getD 0)).2) = true then (fl_Rn fl_C 20 20 [] [] (fl_sl h ((fl_r h this 0).getD 0) (Int32.toNatClampNeg p0) p1)) else none) else none)) else none) else none) := (fl_run_eq fl_C 400 20 0 _ _ _).trans rfl
set_option maxRecDepth 100000 in
theorem fbC_20_20 (h : fl_H) : fl_Rn fl_C 20 20 [] [] h = some (some none, h) := (fl_run_eq fl_C 400 20 20 _ _ _).trans rfl
-- FaultLists$Cells.intAt(I)I
set_option maxRecDepth 100000 in
theorem fbE_24 (h : fl_H) (this : Nat) (p0 : Int32) : fl_cl fl_C 24 [.ref this, .int p0] h = if (decide (p0 < 0)) = true then (fl_Rn fl_C 24 23 [] [] h) else (if (decide (fl_k h this = (1, 1)) && (fl_r h this 0).isSome) = true then (if (decide ((fl_k h ((fl_r h this 0).getD 0)).1 = 3)) = true then (if (decide ((Int32.ofNat (fl_k h ((fl_r h this 0).getD 0)).2) ≤ p0)) = true then (fl_Rn fl_C 24 23 [] [] h) else (if (decide (fl_k h this = (1, 1)) && (fl_r h this 0).isSome) = true then (if (decide ((fl_k h ((fl_r h this 0).getD 0)).1 = 3) && fl_in p0 (fl_k h ((fl_r h this 0).getD 0)).2) = true then (some (some (some (.int (Int64.toInt32 (fl_l h ((fl_r h this 0).getD 0) (Int32.toNatClampNeg p0))))), h)) else none) else none)) else none) else none) := (fl_run_eq fl_C 400 24 0 _ _ _).trans rfl
set_option maxRecDepth 100000 in
theorem fbC_24_23 (h : fl_H) : fl_Rn fl_C 24 23 [] [] h = some (some (some (.int 0)), h) := (fl_run_eq fl_C 400 24 23 _ _ _).trans rfl
-- FaultLists$Cells.copy(LFaultLists$Cells;)V
set_option maxRecDepth 100000 in
theorem fbE_69 (h : fl_H) (this : Nat) (p0 : Nat) : fl_cl fl_C 69 [.ref this, .ref p0] h = fl_Rn fl_C 69 2 [some (.ref this), some (.ref p0), some (.int 0)] [] h := (fl_run_eq fl_C 400 69 0 _ _ _).trans rfl
set_option maxRecDepth 100000 in
theorem fbC_69_2 (h : fl_H) (v0 : Nat) (v1 : Nat) (v2 : Int32) : fl_Rn fl_C 69 2 [some (.ref v0), some (.ref v1), some (.int v2)] [] h = if (decide (fl_k h v0 = (1, 1)) && (fl_r h v0 0).isSome) = true then (if (decide ((fl_k h ((fl_r h v0 0).getD 0)).1 = 3)) = true then (if (decide ((Int32.ofNat (fl_k h ((fl_r h v0 0).getD 0)).2) ≤ v2)) = true then (fl_Rn fl_C 69 38 [] [] h) else (if (decide (fl_k h v1 = (1, 1)) && (fl_r h v1 0).isSome) = true then (if (decide ((fl_k h ((fl_r h v1 0).getD 0)).1 = 3)) = true then (if (decide ((Int32.ofNat (fl_k h ((fl_r h v1 0).getD 0)).2) ≤ v2)) = true then (fl_Rn fl_C 69 38 [] [] h) else (if (decide (fl_k h v0 = (1, 1)) && (fl_r h v0 0).isSome) = true then (if (decide (fl_k h v1 = (1, 1)) && (fl_r h v1 0).isSome) = true then (if (decide ((fl_k h ((fl_r h v1 0).getD 0)).1 = 3) && fl_in v2 (fl_k h ((fl_r h v1 0).getD 0)).2) = true then (if (decide ((fl_k h ((fl_r h v0 0).getD 0)).1 = 3) && fl_in v2 (fl_k h ((fl_r h v0 0).getD 0)).2) = true then (fl_Rn fl_C 69 32 [some (.ref v0), some (.ref v1), some (.int v2)] [] (fl_sl h ((fl_r h v0 0).getD 0) (Int32.toNatClampNeg v2) (fl_l h ((fl_r h v1 0).getD 0) (Int32.toNatClampNeg v2)))) else none) else none) else none) else none)) else none) else none)) else none) else none := (fl_run_eq fl_C 400 69 2 _ _ _).trans rfl
set_option maxRecDepth 100000 in
theorem fbC_69_32 (h : fl_H) (v0 : Nat) (v1 : Nat) (v2 : Int32) : fl_Rn fl_C 69 32 [some (.ref v0), some (.ref v1), some (.int v2)] [] h = fl_Rn fl_C 69 2 [some (.ref v0), some (.ref v1), some (.int (v2 + 1))] [] h := (fl_run_eq fl_C 400 69 32 _ _ _).trans rfl
set_option maxRecDepth 100000 in
theorem fbC_69_38 (h : fl_H) : fl_Rn fl_C 69 38 [] [] h = some (some none, h) := (fl_run_eq fl_C 400 69 38 _ _ _).trans rfl
-- FaultLists$Cells.at(I)J
set_option maxRecDepth 100000 in
theorem fbE_105 (h : fl_H) (this : Nat) (p0 : Int32) : fl_cl fl_C 105 [.ref this, .int p0] h = if (decide (p0 < 0)) = true then (fl_Rn fl_C 105 22 [] [] h) else (if (decide (fl_k h this = (1, 1)) && (fl_r h this 0).isSome) = true then (if (decide ((fl_k h ((fl_r h this 0).getD 0)).1 = 3)) = true then (if (decide ((Int32.ofNat (fl_k h ((fl_r h this 0).getD 0)).2) ≤ p0)) = true then (fl_Rn fl_C 105 22 [] [] h) else (if (decide (fl_k h this = (1, 1)) && (fl_r h this 0).isSome) = true then (if (decide ((fl_k h ((fl_r h this 0).getD 0)).1 = 3) && fl_in p0 (fl_k h ((fl_r h this 0).getD 0)).2) = true then (some (some (some (.long (fl_l h ((fl_r h this 0).getD 0) (Int32.toNatClampNeg p0)))), h)) else none) else none)) else none) else none) := (fl_run_eq fl_C 400 105 0 _ _ _).trans rfl
set_option maxRecDepth 100000 in
theorem fbC_105_22 (h : fl_H) : fl_Rn fl_C 105 22 [] [] h = some (some (some (.long 0)), h) := (fl_run_eq fl_C 400 105 22 _ _ _).trans rfl
-- FaultLists$Cells.fill(J)V
set_option maxRecDepth 100000 in
theorem fbE_205 (h : fl_H) (this : Nat) (p0 : Int64) : fl_cl fl_C 205 [.ref this, .long p0] h = fl_Rn fl_C 205 2 [some (.ref this), some (.long p0), none, some (.int 0)] [] h := (fl_run_eq fl_C 400 205 0 _ _ _).trans rfl
set_option maxRecDepth 100000 in
theorem fbC_205_2 (h : fl_H) (v0 : Nat) (v1 : Int64) (v3 : Int32) : fl_Rn fl_C 205 2 [some (.ref v0), some (.long v1), none, some (.int v3)] [] h = if (decide (fl_k h v0 = (1, 1)) && (fl_r h v0 0).isSome) = true then (if (decide ((fl_k h ((fl_r h v0 0).getD 0)).1 = 3)) = true then (if (decide ((Int32.ofNat (fl_k h ((fl_r h v0 0).getD 0)).2) ≤ v3)) = true then (some (some none, h)) else (if (decide (fl_k h v0 = (1, 1)) && (fl_r h v0 0).isSome) = true then (if (decide ((fl_k h ((fl_r h v0 0).getD 0)).1 = 3) && fl_in v3 (fl_k h ((fl_r h v0 0).getD 0)).2) = true then (fl_Rn fl_C 205 18 [some (.ref v0), some (.long v1), none, some (.int v3)] [] (fl_sl h ((fl_r h v0 0).getD 0) (Int32.toNatClampNeg v3) v1)) else none) else none)) else none) else none := (fl_run_eq fl_C 400 205 2 _ _ _).trans rfl
set_option maxRecDepth 100000 in
theorem fbC_205_18 (h : fl_H) (v0 : Nat) (v1 : Int64) (v3 : Int32) : fl_Rn fl_C 205 18 [some (.ref v0), some (.long v1), none, some (.int v3)] [] h = fl_Rn fl_C 205 2 [some (.ref v0), some (.long v1), none, some (.int (v3 + 1))] [] h := (fl_run_eq fl_C 400 205 18 _ _ _).trans rfl
end
section
/-! WHAT THE METHODS OF Cells COME TO -/
theorem fl_ifp {α : Type} {b : Bool} (h : b = true) (x y : α) : (if b = true then x else y) = x := if_pos h
theorem fl_ifd {α : Type} {p : Prop} [Decidable p] (h : p) (x y : α) : (if decide p = true then x else y) = x := if_pos (decide_eq_true h)
theorem fl_ifn {α : Type} {p : Prop} [Decidable p] (h : ¬ p) (x y : α) : (if decide p = true then x else y) = y := if_neg (fun z => h (of_decide_eq_true z))
/-- a Cells at a, its numbers at q, n of them -/
def fl_cells (h : fl_H) (a q n : Nat) : Prop := fl_k h a = (1, 1) ∧ fl_r h a 0 = some q ∧ fl_k h q = (3, n) ∧ n < 100000
theorem fl_i32_lt0 (i : Int32) : i < 0 ↔ i.toInt < 0 := by
  rw [Int32.lt_iff_toInt_lt]; rfl
theorem fl_i32_nat {i : Int32} (h : ¬ i < 0) : (i.toNatClampNeg : Int) = i.toInt := by
  rw [fl_i32_lt0] at h
  show ((i.toInt.toNat : Nat) : Int) = i.toInt
  omega
theorem fl_i32_ofNat {n : Nat} (h : n < 100000) : (Int32.ofNat n).toInt = (n : Int) := Int32.toInt_ofNat_of_lt (by omega)
theorem fl_i32_le {i : Int32} {n : Nat} (h : ¬ i < 0) (hn : n < 100000) : Int32.ofNat n ≤ i ↔ n ≤ i.toNatClampNeg := by
  have h1 := fl_i32_nat h
  rw [Int32.le_iff_toInt_le, fl_i32_ofNat hn]
  omega
theorem fl_in_iff {i : Int32} {n : Nat} : fl_in i n = true ↔ ¬ i < 0 ∧ i.toNatClampNeg < n := by
  unfold fl_in
  simp only [Bool.not_eq_true', Bool.or_eq_false_iff, decide_eq_false_iff_not, Nat.not_le]
theorem fl_cells_at {h : fl_H} {a q n : Nat} (hc : fl_cells h a q n) (i : Int32) : fl_cl fl_C 105 [.ref a, .int i] h = some (some (some (.long (if fl_in i n = true then fl_l h q i.toNatClampNeg else 0))), h) := by
  obtain ⟨h1, h2, h3, h4⟩ := hc
  rw [fbE_105, h1, h2]
  simp only [Option.getD_some, Option.isSome_some, h3, fbC_105_22]
  by_cases hi : i < 0
  · rw [fl_ifd hi, if_neg (fun z => (fl_in_iff.mp z).1 hi)]
  · rw [fl_ifn hi]
    by_cases hn : n ≤ i.toNatClampNeg
    · simp [(fl_i32_le hi h4).mpr hn, fl_in, hn]
    · have hq : ¬ Int32.ofNat n ≤ i := fun z => hn ((fl_i32_le hi h4).mp z)
      simp [hq, fl_in, hi, hn]
theorem fl_cells_int {h : fl_H} {a q n : Nat} (hc : fl_cells h a q n) (i : Int32) : fl_cl fl_C 24 [.ref a, .int i] h = some (some (some (.int (if fl_in i n = true then (fl_l h q i.toNatClampNeg).toInt32 else 0))), h) := by
  obtain ⟨h1, h2, h3, h4⟩ := hc
  rw [fbE_24, h1, h2]
  simp only [Option.getD_some, Option.isSome_some, h3, fbC_24_23]
  by_cases hi : i < 0
  · rw [fl_ifd hi, if_neg (fun z => (fl_in_iff.mp z).1 hi)]
  · rw [fl_ifn hi]
    by_cases hn : n ≤ i.toNatClampNeg
    · simp [(fl_i32_le hi h4).mpr hn, fl_in, hn]
    · have hq : ¬ Int32.ofNat n ≤ i := fun z => hn ((fl_i32_le hi h4).mp z)
      simp [hq, fl_in, hi, hn]
theorem fl_cells_put {h : fl_H} {a q n : Nat} (hc : fl_cells h a q n) (i : Int32) (v : Int64) : fl_cl fl_C 20 [.ref a, .int i, .long v] h = some (some none, if fl_in i n = true then fl_sl h q i.toNatClampNeg v else h) := by
  obtain ⟨h1, h2, h3, h4⟩ := hc
  rw [fbE_20, h1, h2]
  simp only [Option.getD_some, Option.isSome_some, h3, fbC_20_20]
  by_cases hi : i < 0
  · rw [fl_ifd hi, if_neg (fun z => (fl_in_iff.mp z).1 hi)]
  · rw [fl_ifn hi]
    by_cases hn : n ≤ i.toNatClampNeg
    · simp [(fl_i32_le hi h4).mpr hn, fl_in, hn]
    · have hq : ¬ Int32.ofNat n ≤ i := fun z => hn ((fl_i32_le hi h4).mp z)
      simp [hq, fl_in, hi, hn]
/-- the numbers of an array, all at once -/
def fl_wl (h : fl_H) (q : Nat) (g : Nat → Int64) : fl_H := (h.1, h.2.1, h.2.2.1, h.2.2.2.1, fun b => if b = q then g else fl_l h b)
theorem fl_wl_k {h : fl_H} {q : Nat} {g : Nat → Int64} : fl_k (fl_wl h q g) = fl_k h ∧ fl_r (fl_wl h q g) = fl_r h ∧ fl_i (fl_wl h q g) = fl_i h ∧ (fl_wl h q g).1 = h.1 := ⟨rfl, rfl, rfl, rfl⟩
theorem fl_wl_l {h : fl_H} {q : Nat} {g : Nat → Int64} (b : Nat) : fl_l (fl_wl h q g) b = if b = q then g else fl_l h b := rfl
theorem fl_H_ext {h h' : fl_H} (h1 : h.1 = h'.1) (h2 : fl_k h = fl_k h') (h3 : fl_r h = fl_r h') (h4 : fl_i h = fl_i h') (h5 : fl_l h = fl_l h') : h = h' := by
  obtain ⟨a, b, c, d, e⟩ := h
  obtain ⟨a', b', c', d', e'⟩ := h'
  cases h1; cases h2; cases h3; cases h4; cases h5
  rfl
theorem fl_wl_self {h : fl_H} {q : Nat} {g : Nat → Int64} (hg : g = fl_l h q) : fl_wl h q g = h := by
  refine fl_H_ext rfl rfl rfl rfl ?_
  funext b
  rw [fl_wl_l]
  by_cases e : b = q
  · rw [if_pos e, hg, e]
  · rw [if_neg e]
theorem fl_wl_wl {h : fl_H} {q : Nat} {f g : Nat → Int64} : fl_wl (fl_wl h q f) q g = fl_wl h q g := by
  refine fl_H_ext rfl rfl rfl rfl ?_
  funext b
  rw [fl_wl_l, fl_wl_l, fl_wl_l]
  by_cases e : b = q
  · rw [if_pos e, if_pos e]
  · rw [if_neg e, if_neg e, if_neg e]
theorem fl_wl_comm {h : fl_H} {q r : Nat} {f g : Nat → Int64} (hn : q ≠ r) : fl_wl (fl_wl h q f) r g = fl_wl (fl_wl h r g) q f := by
  refine fl_H_ext rfl rfl rfl rfl ?_
  funext b
  rw [fl_wl_l, fl_wl_l, fl_wl_l, fl_wl_l]
  by_cases e : b = r
  · rw [if_pos e, if_neg (fun z => hn (z.symm.trans e)), if_pos e]
  · rw [if_neg e, if_neg e]
theorem fl_sl_wl {h : fl_H} {q j : Nat} {v : Int64} : fl_sl h q j v = fl_wl h q (fun k => if k = j then v else fl_l h q k) := by
  refine fl_H_ext rfl rfl rfl rfl ?_
  funext b
  rw [fl_wl_l]
  by_cases e : b = q
  · rw [if_pos e, e]
    exact fl_u_self _ _ _ _
  · rw [if_neg e]
    exact fl_u_ne _ _ _ e
theorem fl_cells_wl {h : fl_H} {a q n r : Nat} {g : Nat → Int64} (hc : fl_cells h a q n) : fl_cells (fl_wl h r g) a q n := hc
theorem fl_ofN {k : Nat} (hk : k < 100000) : (Int32.ofNat k).toNatClampNeg = k ∧ ¬ Int32.ofNat k < 0 := by
  have h1 := fl_i32_ofNat hk
  constructor
  · show (Int32.ofNat k).toInt.toNat = k
    rw [h1]; rfl
  · rw [fl_i32_lt0, h1]; omega
theorem fl_in_of {k n : Nat} (hk : k < 100000) : fl_in (Int32.ofNat k) n = decide (k < n) := by
  obtain ⟨h1, h2⟩ := fl_ofN hk
  by_cases h : k < n
  · rw [decide_eq_true h]; exact fl_in_iff.mpr ⟨h2, by rw [h1]; exact h⟩
  · rw [decide_eq_false h]
    cases hz : fl_in (Int32.ofNat k) n with
    | false => rfl
    | true => exact absurd (by rw [← h1]; exact (fl_in_iff.mp hz).2) h
theorem fl_succ {k : Nat} : Int32.ofNat k + 1 = Int32.ofNat (k + 1) := (Int32.ofNat_add k 1).symm
theorem fl_cells_fill {h : fl_H} {a q n : Nat} (hc : fl_cells h a q n) (v : Int64) : fl_cl fl_C 205 [.ref a, .long v] h = some (some none, fl_wl h q (fun j => if j < n then v else fl_l h q j)) := by
  have key : ∀ (m k : Nat) (h : fl_H), k + m = n → fl_cells h a q n → fl_Rn fl_C 205 2 [some (.ref a), some (.long v), none, some (.int (Int32.ofNat k))] [] h = some (some none, fl_wl h q (fun j => if k ≤ j ∧ j < n then v else fl_l h q j)) := by
    intro m
    induction m with
    | zero =>
      intro k h hk hc
      obtain ⟨h1, h2, h3, h4⟩ := id hc
      have h5 : Int32.ofNat n ≤ Int32.ofNat k := (fl_i32_le (fl_ofN (by omega)).2 h4).mpr (by rw [(fl_ofN (by omega)).1]; omega)
      rw [fbC_205_2, h1, h2]
      simp only [Option.getD_some, Option.isSome_some, h3]
      simp only [h5, decide_true, Bool.and_true, if_true]
      rw [fl_wl_self]
      funext j
      rw [if_neg (by omega)]
    | succ m ih =>
      intro k h hk hc
      obtain ⟨h1, h2, h3, h4⟩ := id hc
      have h5 : ¬ Int32.ofNat n ≤ Int32.ofNat k := fun z => by
        have := (fl_i32_le (fl_ofN (by omega)).2 h4).mp z
        rw [(fl_ofN (by omega)).1] at this
        omega
      rw [fbC_205_2, h1, h2]
      simp only [Option.getD_some, Option.isSome_some, h3]
      simp only [h5, decide_true, decide_false, Bool.and_true, Bool.true_and, if_true, fl_in_of (show k < 100000 by omega), show k < n by omega, Bool.false_eq_true, if_false]
      rw [fbC_205_18, fl_succ, (fl_ofN (show k < 100000 by omega)).1, fl_sl_wl, ih (k + 1) _ (by omega) (fl_cells_wl hc), fl_wl_wl]
      congr 3
      funext j
      rw [fl_wl_l, if_pos rfl]
      by_cases e : j = k
      · subst e; rw [if_neg (by omega), if_pos rfl, if_pos (by omega)]
      · by_cases e2 : k + 1 ≤ j ∧ j < n
        · rw [if_pos e2, if_pos (by omega)]
        · rw [if_neg e2, if_neg e, if_neg (by omega)]
  rw [fbE_205]
  have := key n 0 h (by omega) hc
  rw [show (0 : Int32) = Int32.ofNat 0 from rfl, this]
  congr 3
  funext j
  by_cases e : j < n
  · rw [if_pos ⟨Nat.zero_le _, e⟩, if_pos e]
  · rw [if_neg (fun z => e z.2), if_neg e]
end
