section
-- ===== PART A: goes FIRST, ahead of the names: the tables' words, and 'selects' of the private methods out of them =====
/-- a private method of a class that the tables say can be made, by its rows of tables_1 -/
def lw_okq (q : MethodName × Nat) : Prop := (q.1.cls ≠ "java/lang/invoke/MethodHandle" ∧ q.1.cls ≠ "java/lang/invoke/VarHandle") ∧ Cond.instantiable q.1.cls q.2 ∈ tables_1 ∧ Cond.privateMethod q.1 ∈ tables_1 ∧ Cond.instanceMethod q.1 ∈ tables_1
theorem lw_p0 : lw_okq (⟨"FrostLocks$Tokens", "takeWord", "()V"⟩, 9) := ⟨⟨by decide +kernel, by decide +kernel⟩, List.mem_of_getElem? (i := 265) (by decide +kernel), List.mem_of_getElem? (i := 353) (by decide +kernel), List.mem_of_getElem? (i := 354) (by decide +kernel)⟩
theorem lw_p1 : lw_okq (⟨"FrostLocks$Tokens", "takeNumber", "()V"⟩, 9) := ⟨⟨by decide +kernel, by decide +kernel⟩, List.mem_of_getElem? (i := 265) (by decide +kernel), List.mem_of_getElem? (i := 366) (by decide +kernel), List.mem_of_getElem? (i := 367) (by decide +kernel)⟩
theorem lw_p2 : lw_okq (⟨"FrostLocks$PrisonReader", "readLine", "()Z"⟩, 11) := ⟨⟨by decide +kernel, by decide +kernel⟩, List.mem_of_getElem? (i := 257) (by decide +kernel), List.mem_of_getElem? (i := 455) (by decide +kernel), List.mem_of_getElem? (i := 456) (by decide +kernel)⟩
theorem lw_p3 : lw_okq (⟨"FrostLocks$PrisonReader", "readFormula", "(Z)Z"⟩, 11) := ⟨⟨by decide +kernel, by decide +kernel⟩, List.mem_of_getElem? (i := 257) (by decide +kernel), List.mem_of_getElem? (i := 461) (by decide +kernel), List.mem_of_getElem? (i := 462) (by decide +kernel)⟩
theorem lw_p4 : lw_okq (⟨"FrostLocks$PrisonReader", "wrong", "(I)Z"⟩, 11) := ⟨⟨by decide +kernel, by decide +kernel⟩, List.mem_of_getElem? (i := 257) (by decide +kernel), List.mem_of_getElem? (i := 465) (by decide +kernel), List.mem_of_getElem? (i := 466) (by decide +kernel)⟩
theorem lw_p5 : lw_okq (⟨"FrostLocks$PrisonReader", "readLevel", "(II)Z"⟩, 11) := ⟨⟨by decide +kernel, by decide +kernel⟩, List.mem_of_getElem? (i := 257) (by decide +kernel), List.mem_of_getElem? (i := 469) (by decide +kernel), List.mem_of_getElem? (i := 470) (by decide +kernel)⟩
theorem lw_p6 : lw_okq (⟨"FrostLocks$PrisonReader", "readPart", "(I)Z"⟩, 11) := ⟨⟨by decide +kernel, by decide +kernel⟩, List.mem_of_getElem? (i := 257) (by decide +kernel), List.mem_of_getElem? (i := 473) (by decide +kernel), List.mem_of_getElem? (i := 474) (by decide +kernel)⟩
theorem lw_p7 : lw_okq (⟨"FrostLocks$PrisonReader", "addStep", "(II)V"⟩, 11) := ⟨⟨by decide +kernel, by decide +kernel⟩, List.mem_of_getElem? (i := 257) (by decide +kernel), List.mem_of_getElem? (i := 484) (by decide +kernel), List.mem_of_getElem? (i := 485) (by decide +kernel)⟩
theorem lw_p8 : lw_okq (⟨"FrostLocks$PrisonReader", "readSign", "(I)Z"⟩, 11) := ⟨⟨by decide +kernel, by decide +kernel⟩, List.mem_of_getElem? (i := 257) (by decide +kernel), List.mem_of_getElem? (i := 491) (by decide +kernel), List.mem_of_getElem? (i := 492) (by decide +kernel)⟩
theorem lw_p9 : lw_okq (⟨"FrostLocks$PrisonReader", "operatorOf", "(I)I"⟩, 11) := ⟨⟨by decide +kernel, by decide +kernel⟩, List.mem_of_getElem? (i := 257) (by decide +kernel), List.mem_of_getElem? (i := 495) (by decide +kernel), List.mem_of_getElem? (i := 496) (by decide +kernel)⟩
theorem lw_p10 : lw_okq (⟨"FrostLocks$PrisonReader", "readMild", "()Z"⟩, 11) := ⟨⟨by decide +kernel, by decide +kernel⟩, List.mem_of_getElem? (i := 257) (by decide +kernel), List.mem_of_getElem? (i := 534) (by decide +kernel), List.mem_of_getElem? (i := 535) (by decide +kernel)⟩
theorem lw_p11 : lw_okq (⟨"FrostLocks$PrisonReader", "readNumber", "(I)Z"⟩, 11) := ⟨⟨by decide +kernel, by decide +kernel⟩, List.mem_of_getElem? (i := 257) (by decide +kernel), List.mem_of_getElem? (i := 538) (by decide +kernel), List.mem_of_getElem? (i := 539) (by decide +kernel)⟩
theorem lw_p12 : lw_okq (⟨"FrostLocks$PrisonReader", "readCell", "()Z"⟩, 11) := ⟨⟨by decide +kernel, by decide +kernel⟩, List.mem_of_getElem? (i := 257) (by decide +kernel), List.mem_of_getElem? (i := 544) (by decide +kernel), List.mem_of_getElem? (i := 545) (by decide +kernel)⟩
theorem lw_p13 : lw_okq (⟨"FrostLocks$PrisonReader", "isNewName", "()Z"⟩, 11) := ⟨⟨by decide +kernel, by decide +kernel⟩, List.mem_of_getElem? (i := 257) (by decide +kernel), List.mem_of_getElem? (i := 548) (by decide +kernel), List.mem_of_getElem? (i := 549) (by decide +kernel)⟩
theorem lw_p14 : lw_okq (⟨"FrostLocks$PrisonReader", "cellNamed", "(J)I"⟩, 11) := ⟨⟨by decide +kernel, by decide +kernel⟩, List.mem_of_getElem? (i := 257) (by decide +kernel), List.mem_of_getElem? (i := 556) (by decide +kernel), List.mem_of_getElem? (i := 557) (by decide +kernel)⟩
theorem lw_p15 : lw_okq (⟨"FrostLocks$PrisonReader", "readWord", "(LFrostLocks$Word;)Z"⟩, 11) := ⟨⟨by decide +kernel, by decide +kernel⟩, List.mem_of_getElem? (i := 257) (by decide +kernel), List.mem_of_getElem? (i := 562) (by decide +kernel), List.mem_of_getElem? (i := 563) (by decide +kernel)⟩
def lw_privs_1 : List (MethodName × Nat) := [(⟨"FrostLocks$Tokens", "takeWord", "()V"⟩, 9), (⟨"FrostLocks$Tokens", "takeNumber", "()V"⟩, 9), (⟨"FrostLocks$PrisonReader", "readLine", "()Z"⟩, 11), (⟨"FrostLocks$PrisonReader", "readFormula", "(Z)Z"⟩, 11), (⟨"FrostLocks$PrisonReader", "wrong", "(I)Z"⟩, 11), (⟨"FrostLocks$PrisonReader", "readLevel", "(II)Z"⟩, 11), (⟨"FrostLocks$PrisonReader", "readPart", "(I)Z"⟩, 11), (⟨"FrostLocks$PrisonReader", "addStep", "(II)V"⟩, 11), (⟨"FrostLocks$PrisonReader", "readSign", "(I)Z"⟩, 11), (⟨"FrostLocks$PrisonReader", "operatorOf", "(I)I"⟩, 11), (⟨"FrostLocks$PrisonReader", "readMild", "()Z"⟩, 11), (⟨"FrostLocks$PrisonReader", "readNumber", "(I)Z"⟩, 11), (⟨"FrostLocks$PrisonReader", "readCell", "()Z"⟩, 11), (⟨"FrostLocks$PrisonReader", "isNewName", "()Z"⟩, 11), (⟨"FrostLocks$PrisonReader", "cellNamed", "(J)I"⟩, 11), (⟨"FrostLocks$PrisonReader", "readWord", "(LFrostLocks$Word;)Z"⟩, 11)]
theorem lw_r1 : ∀ q ∈ lw_privs_1, lw_okq q := List.forall_mem_cons.mpr ⟨lw_p0, List.forall_mem_cons.mpr ⟨lw_p1, List.forall_mem_cons.mpr ⟨lw_p2, List.forall_mem_cons.mpr ⟨lw_p3, List.forall_mem_cons.mpr ⟨lw_p4, List.forall_mem_cons.mpr ⟨lw_p5, List.forall_mem_cons.mpr ⟨lw_p6, List.forall_mem_cons.mpr ⟨lw_p7, List.forall_mem_cons.mpr ⟨lw_p8, List.forall_mem_cons.mpr ⟨lw_p9, List.forall_mem_cons.mpr ⟨lw_p10, List.forall_mem_cons.mpr ⟨lw_p11, List.forall_mem_cons.mpr ⟨lw_p12, List.forall_mem_cons.mpr ⟨lw_p13, List.forall_mem_cons.mpr ⟨lw_p14, List.forall_mem_cons.mpr ⟨lw_p15, fun _ h => absurd h List.not_mem_nil⟩⟩⟩⟩⟩⟩⟩⟩⟩⟩⟩⟩⟩⟩⟩⟩
theorem lw_p16 : lw_okq (⟨"FrostLocks$PrisonReader", "readDoor", "()Z"⟩, 11) := ⟨⟨by decide +kernel, by decide +kernel⟩, List.mem_of_getElem? (i := 257) (by decide +kernel), List.mem_of_getElem? (i := 568) (by decide +kernel), List.mem_of_getElem? (i := 569) (by decide +kernel)⟩
theorem lw_p17 : lw_okq (⟨"FrostLocks$PrisonReader", "isCellName", "()Z"⟩, 11) := ⟨⟨by decide +kernel, by decide +kernel⟩, List.mem_of_getElem? (i := 257) (by decide +kernel), List.mem_of_getElem? (i := 572) (by decide +kernel), List.mem_of_getElem? (i := 573) (by decide +kernel)⟩
theorem lw_p18 : lw_okq (⟨"FrostLocks$PrisonReader", "readOther", "(I)Z"⟩, 11) := ⟨⟨by decide +kernel, by decide +kernel⟩, List.mem_of_getElem? (i := 257) (by decide +kernel), List.mem_of_getElem? (i := 578) (by decide +kernel), List.mem_of_getElem? (i := 579) (by decide +kernel)⟩
theorem lw_p19 : lw_okq (⟨"FrostLocks$PrisonReader", "readMan", "()Z"⟩, 11) := ⟨⟨by decide +kernel, by decide +kernel⟩, List.mem_of_getElem? (i := 257) (by decide +kernel), List.mem_of_getElem? (i := 588) (by decide +kernel), List.mem_of_getElem? (i := 589) (by decide +kernel)⟩
theorem lw_p20 : lw_okq (⟨"FrostLocks$PrisonReader", "readGuard", "()Z"⟩, 11) := ⟨⟨by decide +kernel, by decide +kernel⟩, List.mem_of_getElem? (i := 257) (by decide +kernel), List.mem_of_getElem? (i := 600) (by decide +kernel), List.mem_of_getElem? (i := 601) (by decide +kernel)⟩
theorem lw_p21 : lw_okq (⟨"FrostLocks$Law", "measureDoor", "(II)V"⟩, 17) := ⟨⟨by decide +kernel, by decide +kernel⟩, List.mem_of_getElem? (i := 52) (by decide +kernel), List.mem_of_getElem? (i := 611) (by decide +kernel), List.mem_of_getElem? (i := 612) (by decide +kernel)⟩
theorem lw_p22 : lw_okq (⟨"FrostLocks", "isHeld", "(I)Z"⟩, 9) := ⟨⟨by decide +kernel, by decide +kernel⟩, List.mem_of_getElem? (i := 27) (by decide +kernel), List.mem_of_getElem? (i := 673) (by decide +kernel), List.mem_of_getElem? (i := 674) (by decide +kernel)⟩
theorem lw_p23 : lw_okq (⟨"FrostLocks$Night", "freeze", "(LFrostLocks$Lock;)V"⟩, 8) := ⟨⟨by decide +kernel, by decide +kernel⟩, List.mem_of_getElem? (i := 142) (by decide +kernel), List.mem_of_getElem? (i := 744) (by decide +kernel), List.mem_of_getElem? (i := 745) (by decide +kernel)⟩
theorem lw_p24 : lw_okq (⟨"FrostLocks$Night", "letGo", "(I)V"⟩, 8) := ⟨⟨by decide +kernel, by decide +kernel⟩, List.mem_of_getElem? (i := 142) (by decide +kernel), List.mem_of_getElem? (i := 758) (by decide +kernel), List.mem_of_getElem? (i := 759) (by decide +kernel)⟩
theorem lw_p25 : lw_okq (⟨"FrostLocks$Night", "isNearer", "(II)Z"⟩, 8) := ⟨⟨by decide +kernel, by decide +kernel⟩, List.mem_of_getElem? (i := 142) (by decide +kernel), List.mem_of_getElem? (i := 767) (by decide +kernel), List.mem_of_getElem? (i := 768) (by decide +kernel)⟩
theorem lw_p26 : lw_okq (⟨"FrostLocks", "foresee", "(II)V"⟩, 9) := ⟨⟨by decide +kernel, by decide +kernel⟩, List.mem_of_getElem? (i := 27) (by decide +kernel), List.mem_of_getElem? (i := 792) (by decide +kernel), List.mem_of_getElem? (i := 793) (by decide +kernel)⟩
theorem lw_p27 : lw_okq (⟨"FrostLocks", "isFirmWith", "(III)Z"⟩, 9) := ⟨⟨by decide +kernel, by decide +kernel⟩, List.mem_of_getElem? (i := 27) (by decide +kernel), List.mem_of_getElem? (i := 799) (by decide +kernel), List.mem_of_getElem? (i := 800) (by decide +kernel)⟩
theorem lw_p28 : lw_okq (⟨"FrostLocks", "orderDoors", "(I)V"⟩, 9) := ⟨⟨by decide +kernel, by decide +kernel⟩, List.mem_of_getElem? (i := 27) (by decide +kernel), List.mem_of_getElem? (i := 811) (by decide +kernel), List.mem_of_getElem? (i := 812) (by decide +kernel)⟩
theorem lw_p29 : lw_okq (⟨"FrostLocks", "findSoonest", "(I)V"⟩, 9) := ⟨⟨by decide +kernel, by decide +kernel⟩, List.mem_of_getElem? (i := 27) (by decide +kernel), List.mem_of_getElem? (i := 815) (by decide +kernel), List.mem_of_getElem? (i := 816) (by decide +kernel)⟩
theorem lw_p30 : lw_okq (⟨"FrostLocks", "noteLoose", "(II)I"⟩, 9) := ⟨⟨by decide +kernel, by decide +kernel⟩, List.mem_of_getElem? (i := 27) (by decide +kernel), List.mem_of_getElem? (i := 820) (by decide +kernel), List.mem_of_getElem? (i := 821) (by decide +kernel)⟩
theorem lw_p31 : lw_okq (⟨"FrostLocks", "weighWays", "()V"⟩, 9) := ⟨⟨by decide +kernel, by decide +kernel⟩, List.mem_of_getElem? (i := 27) (by decide +kernel), List.mem_of_getElem? (i := 836) (by decide +kernel), List.mem_of_getElem? (i := 837) (by decide +kernel)⟩
def lw_privs_2 : List (MethodName × Nat) := [(⟨"FrostLocks$PrisonReader", "readDoor", "()Z"⟩, 11), (⟨"FrostLocks$PrisonReader", "isCellName", "()Z"⟩, 11), (⟨"FrostLocks$PrisonReader", "readOther", "(I)Z"⟩, 11), (⟨"FrostLocks$PrisonReader", "readMan", "()Z"⟩, 11), (⟨"FrostLocks$PrisonReader", "readGuard", "()Z"⟩, 11), (⟨"FrostLocks$Law", "measureDoor", "(II)V"⟩, 17), (⟨"FrostLocks", "isHeld", "(I)Z"⟩, 9), (⟨"FrostLocks$Night", "freeze", "(LFrostLocks$Lock;)V"⟩, 8), (⟨"FrostLocks$Night", "letGo", "(I)V"⟩, 8), (⟨"FrostLocks$Night", "isNearer", "(II)Z"⟩, 8), (⟨"FrostLocks", "foresee", "(II)V"⟩, 9), (⟨"FrostLocks", "isFirmWith", "(III)Z"⟩, 9), (⟨"FrostLocks", "orderDoors", "(I)V"⟩, 9), (⟨"FrostLocks", "findSoonest", "(I)V"⟩, 9), (⟨"FrostLocks", "noteLoose", "(II)I"⟩, 9), (⟨"FrostLocks", "weighWays", "()V"⟩, 9)]
theorem lw_r2 : ∀ q ∈ lw_privs_2, lw_okq q := List.forall_mem_cons.mpr ⟨lw_p16, List.forall_mem_cons.mpr ⟨lw_p17, List.forall_mem_cons.mpr ⟨lw_p18, List.forall_mem_cons.mpr ⟨lw_p19, List.forall_mem_cons.mpr ⟨lw_p20, List.forall_mem_cons.mpr ⟨lw_p21, List.forall_mem_cons.mpr ⟨lw_p22, List.forall_mem_cons.mpr ⟨lw_p23, List.forall_mem_cons.mpr ⟨lw_p24, List.forall_mem_cons.mpr ⟨lw_p25, List.forall_mem_cons.mpr ⟨lw_p26, List.forall_mem_cons.mpr ⟨lw_p27, List.forall_mem_cons.mpr ⟨lw_p28, List.forall_mem_cons.mpr ⟨lw_p29, List.forall_mem_cons.mpr ⟨lw_p30, List.forall_mem_cons.mpr ⟨lw_p31, fun _ h => absurd h List.not_mem_nil⟩⟩⟩⟩⟩⟩⟩⟩⟩⟩⟩⟩⟩⟩⟩⟩
theorem lw_p32 : lw_okq (⟨"FrostLocks", "weighDoor", "(III)V"⟩, 9) := ⟨⟨by decide +kernel, by decide +kernel⟩, List.mem_of_getElem? (i := 27) (by decide +kernel), List.mem_of_getElem? (i := 840) (by decide +kernel), List.mem_of_getElem? (i := 841) (by decide +kernel)⟩
theorem lw_p33 : lw_okq (⟨"FrostLocks", "weightOf", "(I)I"⟩, 9) := ⟨⟨by decide +kernel, by decide +kernel⟩, List.mem_of_getElem? (i := 27) (by decide +kernel), List.mem_of_getElem? (i := 844) (by decide +kernel), List.mem_of_getElem? (i := 845) (by decide +kernel)⟩
theorem lw_p34 : lw_okq (⟨"FrostLocks", "doorWeight", "(I)I"⟩, 9) := ⟨⟨by decide +kernel, by decide +kernel⟩, List.mem_of_getElem? (i := 27) (by decide +kernel), List.mem_of_getElem? (i := 848) (by decide +kernel), List.mem_of_getElem? (i := 849) (by decide +kernel)⟩
theorem lw_p35 : lw_okq (⟨"FrostLocks", "doorOfWay", "(II)I"⟩, 9) := ⟨⟨by decide +kernel, by decide +kernel⟩, List.mem_of_getElem? (i := 27) (by decide +kernel), List.mem_of_getElem? (i := 852) (by decide +kernel), List.mem_of_getElem? (i := 853) (by decide +kernel)⟩
theorem lw_p36 : lw_okq (⟨"FrostLocks", "firstDoorOfWay", "(I)I"⟩, 9) := ⟨⟨by decide +kernel, by decide +kernel⟩, List.mem_of_getElem? (i := 27) (by decide +kernel), List.mem_of_getElem? (i := 856) (by decide +kernel), List.mem_of_getElem? (i := 857) (by decide +kernel)⟩
theorem lw_p37 : lw_okq (⟨"java/lang/Throwable", "fillInStackTrace", "(I)Ljava/lang/Throwable;"⟩, 6) := ⟨⟨by decide +kernel, by decide +kernel⟩, List.mem_of_getElem? (i := 958) (by decide +kernel), List.mem_of_getElem? (i := 956) (by decide +kernel), List.mem_of_getElem? (i := 957) (by decide +kernel)⟩
theorem lw_p38 : lw_okq (⟨"FrostLocksModel", "readsAll", "()Z"⟩, 57) := ⟨⟨by decide +kernel, by decide +kernel⟩, List.mem_of_getElem? (i := 996) (by decide +kernel), List.mem_of_getElem? (i := 1188) (by decide +kernel), List.mem_of_getElem? (i := 1189) (by decide +kernel)⟩
theorem lw_p39 : lw_okq (⟨"FrostLocksModel", "nextToken", "()V"⟩, 57) := ⟨⟨by decide +kernel, by decide +kernel⟩, List.mem_of_getElem? (i := 996) (by decide +kernel), List.mem_of_getElem? (i := 1192) (by decide +kernel), List.mem_of_getElem? (i := 1193) (by decide +kernel)⟩
theorem lw_p40 : lw_okq (⟨"FrostLocksModel", "signAt", "(I)I"⟩, 57) := ⟨⟨by decide +kernel, by decide +kernel⟩, List.mem_of_getElem? (i := 996) (by decide +kernel), List.mem_of_getElem? (i := 1196) (by decide +kernel), List.mem_of_getElem? (i := 1197) (by decide +kernel)⟩
theorem lw_p41 : lw_okq (⟨"FrostLocksModel", "isWord", "(J)Z"⟩, 57) := ⟨⟨by decide +kernel, by decide +kernel⟩, List.mem_of_getElem? (i := 996) (by decide +kernel), List.mem_of_getElem? (i := 1203) (by decide +kernel), List.mem_of_getElem? (i := 1204) (by decide +kernel)⟩
theorem lw_p42 : lw_okq (⟨"FrostLocksModel", "readsLaw", "(I)Z"⟩, 57) := ⟨⟨by decide +kernel, by decide +kernel⟩, List.mem_of_getElem? (i := 996) (by decide +kernel), List.mem_of_getElem? (i := 1207) (by decide +kernel), List.mem_of_getElem? (i := 1208) (by decide +kernel)⟩
theorem lw_p43 : lw_okq (⟨"FrostLocksModel", "fails", "(I)Z"⟩, 57) := ⟨⟨by decide +kernel, by decide +kernel⟩, List.mem_of_getElem? (i := 996) (by decide +kernel), List.mem_of_getElem? (i := 1211) (by decide +kernel), List.mem_of_getElem? (i := 1212) (by decide +kernel)⟩
theorem lw_p44 : lw_okq (⟨"FrostLocksModel", "reads", "()Z"⟩, 57) := ⟨⟨by decide +kernel, by decide +kernel⟩, List.mem_of_getElem? (i := 996) (by decide +kernel), List.mem_of_getElem? (i := 1215) (by decide +kernel), List.mem_of_getElem? (i := 1216) (by decide +kernel)⟩
theorem lw_p45 : lw_okq (⟨"FrostLocksModel", "fact", "()I"⟩, 57) := ⟨⟨by decide +kernel, by decide +kernel⟩, List.mem_of_getElem? (i := 996) (by decide +kernel), List.mem_of_getElem? (i := 1219) (by decide +kernel), List.mem_of_getElem? (i := 1220) (by decide +kernel)⟩
theorem lw_p46 : lw_okq (⟨"FrostLocksModel", "isSign", "(I)Z"⟩, 57) := ⟨⟨by decide +kernel, by decide +kernel⟩, List.mem_of_getElem? (i := 996) (by decide +kernel), List.mem_of_getElem? (i := 1233) (by decide +kernel), List.mem_of_getElem? (i := 1234) (by decide +kernel)⟩
theorem lw_p47 : lw_okq (⟨"FrostLocksModel", "puts", "(I)V"⟩, 57) := ⟨⟨by decide +kernel, by decide +kernel⟩, List.mem_of_getElem? (i := 996) (by decide +kernel), List.mem_of_getElem? (i := 1237) (by decide +kernel), List.mem_of_getElem? (i := 1238) (by decide +kernel)⟩
def lw_privs_3 : List (MethodName × Nat) := [(⟨"FrostLocks", "weighDoor", "(III)V"⟩, 9), (⟨"FrostLocks", "weightOf", "(I)I"⟩, 9), (⟨"FrostLocks", "doorWeight", "(I)I"⟩, 9), (⟨"FrostLocks", "doorOfWay", "(II)I"⟩, 9), (⟨"FrostLocks", "firstDoorOfWay", "(I)I"⟩, 9), (⟨"java/lang/Throwable", "fillInStackTrace", "(I)Ljava/lang/Throwable;"⟩, 6), (⟨"FrostLocksModel", "readsAll", "()Z"⟩, 57), (⟨"FrostLocksModel", "nextToken", "()V"⟩, 57), (⟨"FrostLocksModel", "signAt", "(I)I"⟩, 57), (⟨"FrostLocksModel", "isWord", "(J)Z"⟩, 57), (⟨"FrostLocksModel", "readsLaw", "(I)Z"⟩, 57), (⟨"FrostLocksModel", "fails", "(I)Z"⟩, 57), (⟨"FrostLocksModel", "reads", "()Z"⟩, 57), (⟨"FrostLocksModel", "fact", "()I"⟩, 57), (⟨"FrostLocksModel", "isSign", "(I)Z"⟩, 57), (⟨"FrostLocksModel", "puts", "(I)V"⟩, 57)]
theorem lw_r3 : ∀ q ∈ lw_privs_3, lw_okq q := List.forall_mem_cons.mpr ⟨lw_p32, List.forall_mem_cons.mpr ⟨lw_p33, List.forall_mem_cons.mpr ⟨lw_p34, List.forall_mem_cons.mpr ⟨lw_p35, List.forall_mem_cons.mpr ⟨lw_p36, List.forall_mem_cons.mpr ⟨lw_p37, List.forall_mem_cons.mpr ⟨lw_p38, List.forall_mem_cons.mpr ⟨lw_p39, List.forall_mem_cons.mpr ⟨lw_p40, List.forall_mem_cons.mpr ⟨lw_p41, List.forall_mem_cons.mpr ⟨lw_p42, List.forall_mem_cons.mpr ⟨lw_p43, List.forall_mem_cons.mpr ⟨lw_p44, List.forall_mem_cons.mpr ⟨lw_p45, List.forall_mem_cons.mpr ⟨lw_p46, List.forall_mem_cons.mpr ⟨lw_p47, fun _ h => absurd h List.not_mem_nil⟩⟩⟩⟩⟩⟩⟩⟩⟩⟩⟩⟩⟩⟩⟩⟩
theorem lw_p48 : lw_okq (⟨"FrostLocksModel", "readsMild", "()Z"⟩, 57) := ⟨⟨by decide +kernel, by decide +kernel⟩, List.mem_of_getElem? (i := 996) (by decide +kernel), List.mem_of_getElem? (i := 1243) (by decide +kernel), List.mem_of_getElem? (i := 1244) (by decide +kernel)⟩
theorem lw_p49 : lw_okq (⟨"FrostLocksModel", "needsNumber", "(II)Z"⟩, 57) := ⟨⟨by decide +kernel, by decide +kernel⟩, List.mem_of_getElem? (i := 996) (by decide +kernel), List.mem_of_getElem? (i := 1247) (by decide +kernel), List.mem_of_getElem? (i := 1248) (by decide +kernel)⟩
theorem lw_p50 : lw_okq (⟨"FrostLocksModel", "ends", "()Z"⟩, 57) := ⟨⟨by decide +kernel, by decide +kernel⟩, List.mem_of_getElem? (i := 996) (by decide +kernel), List.mem_of_getElem? (i := 1254) (by decide +kernel), List.mem_of_getElem? (i := 1255) (by decide +kernel)⟩
theorem lw_p51 : lw_okq (⟨"FrostLocksModel", "readsCell", "()Z"⟩, 57) := ⟨⟨by decide +kernel, by decide +kernel⟩, List.mem_of_getElem? (i := 996) (by decide +kernel), List.mem_of_getElem? (i := 1259) (by decide +kernel), List.mem_of_getElem? (i := 1260) (by decide +kernel)⟩
theorem lw_p52 : lw_okq (⟨"FrostLocksModel", "isNew", "()Z"⟩, 57) := ⟨⟨by decide +kernel, by decide +kernel⟩, List.mem_of_getElem? (i := 996) (by decide +kernel), List.mem_of_getElem? (i := 1263) (by decide +kernel), List.mem_of_getElem? (i := 1264) (by decide +kernel)⟩
theorem lw_p53 : lw_okq (⟨"FrostLocksModel", "isKept", "()Z"⟩, 57) := ⟨⟨by decide +kernel, by decide +kernel⟩, List.mem_of_getElem? (i := 996) (by decide +kernel), List.mem_of_getElem? (i := 1267) (by decide +kernel), List.mem_of_getElem? (i := 1268) (by decide +kernel)⟩
theorem lw_p54 : lw_okq (⟨"FrostLocksModel", "cellNamed", "()I"⟩, 57) := ⟨⟨by decide +kernel, by decide +kernel⟩, List.mem_of_getElem? (i := 996) (by decide +kernel), List.mem_of_getElem? (i := 1279) (by decide +kernel), List.mem_of_getElem? (i := 1280) (by decide +kernel)⟩
theorem lw_p55 : lw_okq (⟨"FrostLocksModel", "needsWord", "(J)Z"⟩, 57) := ⟨⟨by decide +kernel, by decide +kernel⟩, List.mem_of_getElem? (i := 996) (by decide +kernel), List.mem_of_getElem? (i := 1283) (by decide +kernel), List.mem_of_getElem? (i := 1284) (by decide +kernel)⟩
theorem lw_p56 : lw_okq (⟨"FrostLocksModel", "readsDoor", "()Z"⟩, 57) := ⟨⟨by decide +kernel, by decide +kernel⟩, List.mem_of_getElem? (i := 996) (by decide +kernel), List.mem_of_getElem? (i := 1287) (by decide +kernel), List.mem_of_getElem? (i := 1288) (by decide +kernel)⟩
theorem lw_p57 : lw_okq (⟨"FrostLocksModel", "needsCell", "()Z"⟩, 57) := ⟨⟨by decide +kernel, by decide +kernel⟩, List.mem_of_getElem? (i := 996) (by decide +kernel), List.mem_of_getElem? (i := 1291) (by decide +kernel), List.mem_of_getElem? (i := 1292) (by decide +kernel)⟩
theorem lw_p58 : lw_okq (⟨"FrostLocksModel", "readsMan", "()Z"⟩, 57) := ⟨⟨by decide +kernel, by decide +kernel⟩, List.mem_of_getElem? (i := 996) (by decide +kernel), List.mem_of_getElem? (i := 1295) (by decide +kernel), List.mem_of_getElem? (i := 1296) (by decide +kernel)⟩
theorem lw_p59 : lw_okq (⟨"FrostLocksModel", "readsGuard", "()Z"⟩, 57) := ⟨⟨by decide +kernel, by decide +kernel⟩, List.mem_of_getElem? (i := 996) (by decide +kernel), List.mem_of_getElem? (i := 1299) (by decide +kernel), List.mem_of_getElem? (i := 1300) (by decide +kernel)⟩
theorem lw_p60 : lw_okq (⟨"FrostLocksModel", "lays", "(II)V"⟩, 57) := ⟨⟨by decide +kernel, by decide +kernel⟩, List.mem_of_getElem? (i := 996) (by decide +kernel), List.mem_of_getElem? (i := 1303) (by decide +kernel), List.mem_of_getElem? (i := 1304) (by decide +kernel)⟩
theorem lw_p61 : lw_okq (⟨"FrostLocksModel", "ways", "()V"⟩, 57) := ⟨⟨by decide +kernel, by decide +kernel⟩, List.mem_of_getElem? (i := 996) (by decide +kernel), List.mem_of_getElem? (i := 1310) (by decide +kernel), List.mem_of_getElem? (i := 1311) (by decide +kernel)⟩
theorem lw_p62 : lw_okq (⟨"FrostLocksModel", "isCell", "(I)Z"⟩, 57) := ⟨⟨by decide +kernel, by decide +kernel⟩, List.mem_of_getElem? (i := 996) (by decide +kernel), List.mem_of_getElem? (i := 1318) (by decide +kernel), List.mem_of_getElem? (i := 1319) (by decide +kernel)⟩
theorem lw_p63 : lw_okq (⟨"FrostLocksModel", "menIn", "(I)I"⟩, 57) := ⟨⟨by decide +kernel, by decide +kernel⟩, List.mem_of_getElem? (i := 996) (by decide +kernel), List.mem_of_getElem? (i := 1322) (by decide +kernel), List.mem_of_getElem? (i := 1323) (by decide +kernel)⟩
def lw_privs_4 : List (MethodName × Nat) := [(⟨"FrostLocksModel", "readsMild", "()Z"⟩, 57), (⟨"FrostLocksModel", "needsNumber", "(II)Z"⟩, 57), (⟨"FrostLocksModel", "ends", "()Z"⟩, 57), (⟨"FrostLocksModel", "readsCell", "()Z"⟩, 57), (⟨"FrostLocksModel", "isNew", "()Z"⟩, 57), (⟨"FrostLocksModel", "isKept", "()Z"⟩, 57), (⟨"FrostLocksModel", "cellNamed", "()I"⟩, 57), (⟨"FrostLocksModel", "needsWord", "(J)Z"⟩, 57), (⟨"FrostLocksModel", "readsDoor", "()Z"⟩, 57), (⟨"FrostLocksModel", "needsCell", "()Z"⟩, 57), (⟨"FrostLocksModel", "readsMan", "()Z"⟩, 57), (⟨"FrostLocksModel", "readsGuard", "()Z"⟩, 57), (⟨"FrostLocksModel", "lays", "(II)V"⟩, 57), (⟨"FrostLocksModel", "ways", "()V"⟩, 57), (⟨"FrostLocksModel", "isCell", "(I)Z"⟩, 57), (⟨"FrostLocksModel", "menIn", "(I)I"⟩, 57)]
theorem lw_r4 : ∀ q ∈ lw_privs_4, lw_okq q := List.forall_mem_cons.mpr ⟨lw_p48, List.forall_mem_cons.mpr ⟨lw_p49, List.forall_mem_cons.mpr ⟨lw_p50, List.forall_mem_cons.mpr ⟨lw_p51, List.forall_mem_cons.mpr ⟨lw_p52, List.forall_mem_cons.mpr ⟨lw_p53, List.forall_mem_cons.mpr ⟨lw_p54, List.forall_mem_cons.mpr ⟨lw_p55, List.forall_mem_cons.mpr ⟨lw_p56, List.forall_mem_cons.mpr ⟨lw_p57, List.forall_mem_cons.mpr ⟨lw_p58, List.forall_mem_cons.mpr ⟨lw_p59, List.forall_mem_cons.mpr ⟨lw_p60, List.forall_mem_cons.mpr ⟨lw_p61, List.forall_mem_cons.mpr ⟨lw_p62, List.forall_mem_cons.mpr ⟨lw_p63, fun _ h => absurd h List.not_mem_nil⟩⟩⟩⟩⟩⟩⟩⟩⟩⟩⟩⟩⟩⟩⟩⟩
theorem lw_p64 : lw_okq (⟨"FrostLocksModel", "guardsIn", "(II)I"⟩, 57) := ⟨⟨by decide +kernel, by decide +kernel⟩, List.mem_of_getElem? (i := 996) (by decide +kernel), List.mem_of_getElem? (i := 1326) (by decide +kernel), List.mem_of_getElem? (i := 1327) (by decide +kernel)⟩
theorem lw_p65 : lw_okq (⟨"FrostLocksModel", "isDoor", "(I)Z"⟩, 57) := ⟨⟨by decide +kernel, by decide +kernel⟩, List.mem_of_getElem? (i := 996) (by decide +kernel), List.mem_of_getElem? (i := 1334) (by decide +kernel), List.mem_of_getElem? (i := 1335) (by decide +kernel)⟩
theorem lw_p66 : lw_okq (⟨"FrostLocksModel", "isMan", "(I)Z"⟩, 57) := ⟨⟨by decide +kernel, by decide +kernel⟩, List.mem_of_getElem? (i := 996) (by decide +kernel), List.mem_of_getElem? (i := 1342) (by decide +kernel), List.mem_of_getElem? (i := 1343) (by decide +kernel)⟩
theorem lw_p67 : lw_okq (⟨"FrostLocksModel", "degreesAt", "(II)I"⟩, 57) := ⟨⟨by decide +kernel, by decide +kernel⟩, List.mem_of_getElem? (i := 996) (by decide +kernel), List.mem_of_getElem? (i := 1350) (by decide +kernel), List.mem_of_getElem? (i := 1351) (by decide +kernel)⟩
theorem lw_p68 : lw_okq (⟨"FrostLocksModel", "worked", "(I)I"⟩, 57) := ⟨⟨by decide +kernel, by decide +kernel⟩, List.mem_of_getElem? (i := 996) (by decide +kernel), List.mem_of_getElem? (i := 1354) (by decide +kernel), List.mem_of_getElem? (i := 1355) (by decide +kernel)⟩
theorem lw_p69 : lw_okq (⟨"FrostLocksModel", "opens", "(I)V"⟩, 57) := ⟨⟨by decide +kernel, by decide +kernel⟩, List.mem_of_getElem? (i := 996) (by decide +kernel), List.mem_of_getElem? (i := 1358) (by decide +kernel), List.mem_of_getElem? (i := 1359) (by decide +kernel)⟩
theorem lw_p70 : lw_okq (⟨"FrostLocksModel", "sums", "(I)V"⟩, 57) := ⟨⟨by decide +kernel, by decide +kernel⟩, List.mem_of_getElem? (i := 996) (by decide +kernel), List.mem_of_getElem? (i := 1362) (by decide +kernel), List.mem_of_getElem? (i := 1363) (by decide +kernel)⟩
theorem lw_p71 : lw_okq (⟨"FrostLocksModel", "tests", "(I)V"⟩, 57) := ⟨⟨by decide +kernel, by decide +kernel⟩, List.mem_of_getElem? (i := 996) (by decide +kernel), List.mem_of_getElem? (i := 1366) (by decide +kernel), List.mem_of_getElem? (i := 1367) (by decide +kernel)⟩
theorem lw_p72 : lw_okq (⟨"FrostLocksModel", "poursIn", "(II)I"⟩, 57) := ⟨⟨by decide +kernel, by decide +kernel⟩, List.mem_of_getElem? (i := 996) (by decide +kernel), List.mem_of_getElem? (i := 1377) (by decide +kernel), List.mem_of_getElem? (i := 1378) (by decide +kernel)⟩
theorem lw_p73 : lw_okq (⟨"FrostLocksModel", "isHeld", "(I)Z"⟩, 57) := ⟨⟨by decide +kernel, by decide +kernel⟩, List.mem_of_getElem? (i := 996) (by decide +kernel), List.mem_of_getElem? (i := 1386) (by decide +kernel), List.mem_of_getElem? (i := 1387) (by decide +kernel)⟩
theorem lw_p74 : lw_okq (⟨"FrostLocksModel", "leads", "(II)I"⟩, 57) := ⟨⟨by decide +kernel, by decide +kernel⟩, List.mem_of_getElem? (i := 996) (by decide +kernel), List.mem_of_getElem? (i := 1390) (by decide +kernel), List.mem_of_getElem? (i := 1391) (by decide +kernel)⟩
theorem lw_p75 : lw_okq (⟨"FrostLocksModel", "passes", "(I)V"⟩, 57) := ⟨⟨by decide +kernel, by decide +kernel⟩, List.mem_of_getElem? (i := 996) (by decide +kernel), List.mem_of_getElem? (i := 1406) (by decide +kernel), List.mem_of_getElem? (i := 1407) (by decide +kernel)⟩
theorem lw_p76 : lw_okq (⟨"FrostLocksModel", "frosts", "(I)V"⟩, 57) := ⟨⟨by decide +kernel, by decide +kernel⟩, List.mem_of_getElem? (i := 996) (by decide +kernel), List.mem_of_getElem? (i := 1410) (by decide +kernel), List.mem_of_getElem? (i := 1411) (by decide +kernel)⟩
theorem lw_p77 : lw_okq (⟨"FrostLocksModel", "inAndBy", "(I)I"⟩, 57) := ⟨⟨by decide +kernel, by decide +kernel⟩, List.mem_of_getElem? (i := 996) (by decide +kernel), List.mem_of_getElem? (i := 1414) (by decide +kernel), List.mem_of_getElem? (i := 1415) (by decide +kernel)⟩
theorem lw_p78 : lw_okq (⟨"FrostLocksModel", "freezes", "(IIIIII)I"⟩, 57) := ⟨⟨by decide +kernel, by decide +kernel⟩, List.mem_of_getElem? (i := 996) (by decide +kernel), List.mem_of_getElem? (i := 1421) (by decide +kernel), List.mem_of_getElem? (i := 1422) (by decide +kernel)⟩
theorem lw_p79 : lw_okq (⟨"FrostLocksModel", "turns", "(III)V"⟩, 57) := ⟨⟨by decide +kernel, by decide +kernel⟩, List.mem_of_getElem? (i := 996) (by decide +kernel), List.mem_of_getElem? (i := 1425) (by decide +kernel), List.mem_of_getElem? (i := 1426) (by decide +kernel)⟩
def lw_privs_5 : List (MethodName × Nat) := [(⟨"FrostLocksModel", "guardsIn", "(II)I"⟩, 57), (⟨"FrostLocksModel", "isDoor", "(I)Z"⟩, 57), (⟨"FrostLocksModel", "isMan", "(I)Z"⟩, 57), (⟨"FrostLocksModel", "degreesAt", "(II)I"⟩, 57), (⟨"FrostLocksModel", "worked", "(I)I"⟩, 57), (⟨"FrostLocksModel", "opens", "(I)V"⟩, 57), (⟨"FrostLocksModel", "sums", "(I)V"⟩, 57), (⟨"FrostLocksModel", "tests", "(I)V"⟩, 57), (⟨"FrostLocksModel", "poursIn", "(II)I"⟩, 57), (⟨"FrostLocksModel", "isHeld", "(I)Z"⟩, 57), (⟨"FrostLocksModel", "leads", "(II)I"⟩, 57), (⟨"FrostLocksModel", "passes", "(I)V"⟩, 57), (⟨"FrostLocksModel", "frosts", "(I)V"⟩, 57), (⟨"FrostLocksModel", "inAndBy", "(I)I"⟩, 57), (⟨"FrostLocksModel", "freezes", "(IIIIII)I"⟩, 57), (⟨"FrostLocksModel", "turns", "(III)V"⟩, 57)]
theorem lw_r5 : ∀ q ∈ lw_privs_5, lw_okq q := List.forall_mem_cons.mpr ⟨lw_p64, List.forall_mem_cons.mpr ⟨lw_p65, List.forall_mem_cons.mpr ⟨lw_p66, List.forall_mem_cons.mpr ⟨lw_p67, List.forall_mem_cons.mpr ⟨lw_p68, List.forall_mem_cons.mpr ⟨lw_p69, List.forall_mem_cons.mpr ⟨lw_p70, List.forall_mem_cons.mpr ⟨lw_p71, List.forall_mem_cons.mpr ⟨lw_p72, List.forall_mem_cons.mpr ⟨lw_p73, List.forall_mem_cons.mpr ⟨lw_p74, List.forall_mem_cons.mpr ⟨lw_p75, List.forall_mem_cons.mpr ⟨lw_p76, List.forall_mem_cons.mpr ⟨lw_p77, List.forall_mem_cons.mpr ⟨lw_p78, List.forall_mem_cons.mpr ⟨lw_p79, fun _ h => absurd h List.not_mem_nil⟩⟩⟩⟩⟩⟩⟩⟩⟩⟩⟩⟩⟩⟩⟩⟩
theorem lw_p80 : lw_okq (⟨"FrostLocksModel", "walks", "(I)V"⟩, 57) := ⟨⟨by decide +kernel, by decide +kernel⟩, List.mem_of_getElem? (i := 996) (by decide +kernel), List.mem_of_getElem? (i := 1430) (by decide +kernel), List.mem_of_getElem? (i := 1431) (by decide +kernel)⟩
theorem lw_p81 : lw_okq (⟨"FrostLocksModel", "hasGuard", "(II)Z"⟩, 57) := ⟨⟨by decide +kernel, by decide +kernel⟩, List.mem_of_getElem? (i := 996) (by decide +kernel), List.mem_of_getElem? (i := 1434) (by decide +kernel), List.mem_of_getElem? (i := 1435) (by decide +kernel)⟩
theorem lw_p82 : lw_okq (⟨"FrostLocksModel", "farOf", "(I)I"⟩, 57) := ⟨⟨by decide +kernel, by decide +kernel⟩, List.mem_of_getElem? (i := 996) (by decide +kernel), List.mem_of_getElem? (i := 1438) (by decide +kernel), List.mem_of_getElem? (i := 1439) (by decide +kernel)⟩
theorem lw_p83 : lw_okq (⟨"FrostLocksModel", "soons", "(I)V"⟩, 57) := ⟨⟨by decide +kernel, by decide +kernel⟩, List.mem_of_getElem? (i := 996) (by decide +kernel), List.mem_of_getElem? (i := 1449) (by decide +kernel), List.mem_of_getElem? (i := 1450) (by decide +kernel)⟩
theorem lw_p84 : lw_okq (⟨"FrostLocksModel", "holds", "(III)Z"⟩, 57) := ⟨⟨by decide +kernel, by decide +kernel⟩, List.mem_of_getElem? (i := 996) (by decide +kernel), List.mem_of_getElem? (i := 1460) (by decide +kernel), List.mem_of_getElem? (i := 1461) (by decide +kernel)⟩
theorem lw_p85 : lw_okq (⟨"FrostLocksModel", "orders", "(I)V"⟩, 57) := ⟨⟨by decide +kernel, by decide +kernel⟩, List.mem_of_getElem? (i := 996) (by decide +kernel), List.mem_of_getElem? (i := 1468) (by decide +kernel), List.mem_of_getElem? (i := 1469) (by decide +kernel)⟩
theorem lw_p86 : lw_okq (⟨"FrostLocksModel", "tries", "(IIII)V"⟩, 57) := ⟨⟨by decide +kernel, by decide +kernel⟩, List.mem_of_getElem? (i := 996) (by decide +kernel), List.mem_of_getElem? (i := 1480) (by decide +kernel), List.mem_of_getElem? (i := 1481) (by decide +kernel)⟩
theorem lw_p87 : lw_okq (⟨"FrostLocksModel", "held", "()I"⟩, 57) := ⟨⟨by decide +kernel, by decide +kernel⟩, List.mem_of_getElem? (i := 996) (by decide +kernel), List.mem_of_getElem? (i := 1504) (by decide +kernel), List.mem_of_getElem? (i := 1505) (by decide +kernel)⟩
theorem lw_p88 : lw_okq (⟨"FrostLocksModel", "draws", "(I)I"⟩, 57) := ⟨⟨by decide +kernel, by decide +kernel⟩, List.mem_of_getElem? (i := 996) (by decide +kernel), List.mem_of_getElem? (i := 1515) (by decide +kernel), List.mem_of_getElem? (i := 1516) (by decide +kernel)⟩
def lw_privs_6 : List (MethodName × Nat) := [(⟨"FrostLocksModel", "walks", "(I)V"⟩, 57), (⟨"FrostLocksModel", "hasGuard", "(II)Z"⟩, 57), (⟨"FrostLocksModel", "farOf", "(I)I"⟩, 57), (⟨"FrostLocksModel", "soons", "(I)V"⟩, 57), (⟨"FrostLocksModel", "holds", "(III)Z"⟩, 57), (⟨"FrostLocksModel", "orders", "(I)V"⟩, 57), (⟨"FrostLocksModel", "tries", "(IIII)V"⟩, 57), (⟨"FrostLocksModel", "held", "()I"⟩, 57), (⟨"FrostLocksModel", "draws", "(I)I"⟩, 57)]
theorem lw_r6 : ∀ q ∈ lw_privs_6, lw_okq q := List.forall_mem_cons.mpr ⟨lw_p80, List.forall_mem_cons.mpr ⟨lw_p81, List.forall_mem_cons.mpr ⟨lw_p82, List.forall_mem_cons.mpr ⟨lw_p83, List.forall_mem_cons.mpr ⟨lw_p84, List.forall_mem_cons.mpr ⟨lw_p85, List.forall_mem_cons.mpr ⟨lw_p86, List.forall_mem_cons.mpr ⟨lw_p87, List.forall_mem_cons.mpr ⟨lw_p88, fun _ h => absurd h List.not_mem_nil⟩⟩⟩⟩⟩⟩⟩⟩⟩
def lw_privs : List (MethodName × Nat) := lw_privs_1 ++ (lw_privs_2 ++ (lw_privs_3 ++ (lw_privs_4 ++ (lw_privs_5 ++ (lw_privs_6)))))
def lw_tbl : List Cond := k2_sels lw_privs ++ tables_1
theorem lw_privs_ok : ∀ q ∈ lw_privs, lw_okq q := by
  show ∀ q ∈ lw_privs_1 ++ (lw_privs_2 ++ (lw_privs_3 ++ (lw_privs_4 ++ (lw_privs_5 ++ (lw_privs_6))))), lw_okq q
  exact List.forall_mem_append.mpr ⟨lw_r1, List.forall_mem_append.mpr ⟨lw_r2, List.forall_mem_append.mpr ⟨lw_r3, List.forall_mem_append.mpr ⟨lw_r4, List.forall_mem_append.mpr ⟨lw_r5, lw_r6⟩⟩⟩⟩⟩
end
section
def RX0 : String := "FrostLocks$Draws"
def TX0 : u_T := fun k => match k with
  | _ => ("FrostLocks$Draws", "state", "J", false)
def tyX0 : Nat → FieldType := fun k => match k with
  | _ => .long
theorem nmX0 : ∀ a, a < 1 → ∀ b, b < 1 → a ≠ b → (TX0 a).2.1 ≠ (TX0 b).2.1 := by decide +kernel
theorem tyX0_ok : ∀ k, k < 1 → parseFieldDescriptor (TX0 k).2.2.1 = some (tyX0 k) := by decide +kernel
abbrev cX0_init : ByteArray := prog_2_method_1_code
def yX0_init : MethodName := ⟨RX0, "<init>", "(I)V"⟩
abbrev cX0_drawBelow : ByteArray := prog_2_method_2_code
def yX0_drawBelow : MethodName := ⟨RX0, "drawBelow", "(I)I"⟩
def RX1 : String := "FrostLocks$Formula"
def TX1 : u_T := fun k => match k with
  | 0 => ("FrostLocks$Formula", "steps", "[I", true)
  | _ => ("FrostLocks$Formula", "stack", "[I", true)
def tyX1 : Nat → FieldType := fun k => match k with
  | 0 => .array .int
  | _ => .array .int
theorem nmX1 : ∀ a, a < 2 → ∀ b, b < 2 → a ≠ b → (TX1 a).2.1 ≠ (TX1 b).2.1 := by decide +kernel
theorem tyX1_ok : ∀ k, k < 2 → parseFieldDescriptor (TX1 k).2.2.1 = some (tyX1 k) := by decide +kernel
abbrev cX1_init : ByteArray := prog_3_method_1_code
def yX1_init : MethodName := ⟨RX1, "<init>", "([II)V"⟩
abbrev cX1_stepOf : ByteArray := prog_3_method_2_code
def yX1_stepOf : MethodName := ⟨RX1, "stepOf", "(II)I"⟩
abbrev cX1_valueBy : ByteArray := prog_3_method_3_code
def yX1_valueBy : MethodName := ⟨RX1, "valueBy", "([I)I"⟩
abbrev cX1_factOf : ByteArray := prog_3_method_4_code
def yX1_factOf : MethodName := ⟨RX1, "factOf", "([II)I"⟩
abbrev cX1_joined : ByteArray := prog_3_method_5_code
def yX1_joined : MethodName := ⟨RX1, "joined", "(III)I"⟩
abbrev cX1_bit : ByteArray := prog_3_method_6_code
def yX1_bit : MethodName := ⟨RX1, "bit", "(Z)I"⟩
def RX2 : String := "FrostLocks$Law"
def TX2 : u_T := fun k => match k with
  | 0 => ("FrostLocks$Law", "cells", "I", false)
  | 1 => ("FrostLocks$Law", "doors", "I", false)
  | 2 => ("FrostLocks$Law", "men", "I", false)
  | 3 => ("FrostLocks$Law", "guards", "I", false)
  | 4 => ("FrostLocks$Law", "mild", "I", false)
  | 5 => ("FrostLocks$Law", "weather", "LFrostLocks$Formula;", false)
  | 6 => ("FrostLocks$Law", "ice", "LFrostLocks$Formula;", false)
  | 7 => ("FrostLocks$Law", "stoves", "[I", true)
  | 8 => ("FrostLocks$Law", "far", "[I", true)
  | 9 => ("FrostLocks$Law", "doorCell", "[I", true)
  | 10 => ("FrostLocks$Law", "doorOther", "[I", true)
  | 11 => ("FrostLocks$Law", "thick", "[I", true)
  | 12 => ("FrostLocks$Law", "manCell", "[I", true)
  | 13 => ("FrostLocks$Law", "manSalt", "[I", true)
  | 14 => ("FrostLocks$Law", "manDay", "[I", true)
  | 15 => ("FrostLocks$Law", "rounds", "[I", true)
  | _ => ("FrostLocks$Law", "roundLength", "[I", true)
def tyX2 : Nat → FieldType := fun k => match k with
  | 0 => .int
  | 1 => .int
  | 2 => .int
  | 3 => .int
  | 4 => .int
  | 5 => .object "FrostLocks$Formula"
  | 6 => .object "FrostLocks$Formula"
  | 7 => .array .int
  | 8 => .array .int
  | 9 => .array .int
  | 10 => .array .int
  | 11 => .array .int
  | 12 => .array .int
  | 13 => .array .int
  | 14 => .array .int
  | 15 => .array .int
  | _ => .array .int
theorem nmX2 : ∀ a, a < 17 → ∀ b, b < 17 → a ≠ b → (TX2 a).2.1 ≠ (TX2 b).2.1 := by decide +kernel
theorem tyX2_ok : ∀ k, k < 17 → parseFieldDescriptor (TX2 k).2.2.1 = some (tyX2 k) := by decide +kernel
abbrev cX2_init : ByteArray := prog_4_method_1_code
def yX2_init : MethodName := ⟨RX2, "<init>", "()V"⟩
abbrev cX2_across : ByteArray := prog_4_method_2_code
def yX2_across : MethodName := ⟨RX2, "across", "(II)I"⟩
abbrev cX2_farOf : ByteArray := prog_4_method_3_code
def yX2_farOf : MethodName := ⟨RX2, "farOf", "(I)I"⟩
abbrev cX2_guardCell : ByteArray := prog_4_method_4_code
def yX2_guardCell : MethodName := ⟨RX2, "guardCell", "(II)I"⟩
abbrev cX2_measureFar : ByteArray := prog_4_method_5_code
def yX2_measureFar : MethodName := ⟨RX2, "measureFar", "()V"⟩
abbrev cX2_measureDoor : ByteArray := prog_4_method_6_code
def yX2_measureDoor : MethodName := ⟨RX2, "measureDoor", "(II)V"⟩
def RX3 : String := "FrostLocks$Lock"
def TX3 : u_T := fun k => match k with
  | 0 => ("FrostLocks$Lock", "ice", "I", false)
  | 1 => ("FrostLocks$Lock", "water", "I", false)
  | 2 => ("FrostLocks$Lock", "salt", "I", false)
  | 3 => ("FrostLocks$Lock", "bareIce", "I", false)
  | _ => ("FrostLocks$Lock", "menBeside", "I", false)
def tyX3 : Nat → FieldType := fun k => match k with
  | 0 => .int
  | 1 => .int
  | 2 => .int
  | 3 => .int
  | _ => .int
theorem nmX3 : ∀ a, a < 5 → ∀ b, b < 5 → a ≠ b → (TX3 a).2.1 ≠ (TX3 b).2.1 := by decide +kernel
theorem tyX3_ok : ∀ k, k < 5 → parseFieldDescriptor (TX3 k).2.2.1 = some (tyX3 k) := by decide +kernel
abbrev cX3_init : ByteArray := prog_5_method_1_code
def yX3_init : MethodName := ⟨RX3, "<init>", "()V"⟩
abbrev cX3_begin : ByteArray := prog_5_method_2_code
def yX3_begin : MethodName := ⟨RX3, "begin", "(I)V"⟩
abbrev cX3_copyFrom : ByteArray := prog_5_method_3_code
def yX3_copyFrom : MethodName := ⟨RX3, "copyFrom", "(LFrostLocks$Lock;)V"⟩
abbrev cX3_held : ByteArray := prog_5_method_4_code
def yX3_held : MethodName := ⟨RX3, "held", "()I"⟩
abbrev cX3_isLoose : ByteArray := prog_5_method_5_code
def yX3_isLoose : MethodName := ⟨RX3, "isLoose", "()Z"⟩
abbrev cX3_saltBehind : ByteArray := prog_5_method_6_code
def yX3_saltBehind : MethodName := ⟨RX3, "saltBehind", "(I)I"⟩
abbrev cX3_takeWater : ByteArray := prog_5_method_7_code
def yX3_takeWater : MethodName := ⟨RX3, "takeWater", "(I)I"⟩
def RX4 : String := "FrostLocks$Night"
def TX4 : u_T := fun k => match k with
  | 0 => ("FrostLocks$Night", "law", "LFrostLocks$Law;", false)
  | 1 => ("FrostLocks$Night", "hour", "I", false)
  | 2 => ("FrostLocks$Night", "barred", "I", false)
  | 3 => ("FrostLocks$Night", "stoves", "[I", true)
  | 4 => ("FrostLocks$Night", "manCell", "[I", true)
  | 5 => ("FrostLocks$Night", "manSalt", "[I", true)
  | 6 => ("FrostLocks$Night", "locks", "[LFrostLocks$Lock;", true)
  | _ => ("FrostLocks$Night", "facts", "[I", true)
def tyX4 : Nat → FieldType := fun k => match k with
  | 0 => .object "FrostLocks$Law"
  | 1 => .int
  | 2 => .int
  | 3 => .array .int
  | 4 => .array .int
  | 5 => .array .int
  | 6 => .array (.object "FrostLocks$Lock")
  | _ => .array .int
theorem nmX4 : ∀ a, a < 8 → ∀ b, b < 8 → a ≠ b → (TX4 a).2.1 ≠ (TX4 b).2.1 := by decide +kernel
theorem tyX4_ok : ∀ k, k < 8 → parseFieldDescriptor (TX4 k).2.2.1 = some (tyX4 k) := by decide +kernel
abbrev cX4_init : ByteArray := prog_6_method_1_code
def yX4_init : MethodName := ⟨RX4, "<init>", "(LFrostLocks$Law;)V"⟩
abbrev cX4_begin : ByteArray := prog_6_method_2_code
def yX4_begin : MethodName := ⟨RX4, "begin", "(LFrostLocks$Law;)V"⟩
abbrev cX4_copyFrom : ByteArray := prog_6_method_3_code
def yX4_copyFrom : MethodName := ⟨RX4, "copyFrom", "(LFrostLocks$Night;)V"⟩
abbrev cX4_menIn : ByteArray := prog_6_method_4_code
def yX4_menIn : MethodName := ⟨RX4, "menIn", "(II)I"⟩
abbrev cX4_menHeld : ByteArray := prog_6_method_5_code
def yX4_menHeld : MethodName := ⟨RX4, "menHeld", "()I"⟩
abbrev cX4_guardsIn : ByteArray := prog_6_method_6_code
def yX4_guardsIn : MethodName := ⟨RX4, "guardsIn", "(I)I"⟩
abbrev cX4_someLoose : ByteArray := prog_6_method_7_code
def yX4_someLoose : MethodName := ⟨RX4, "someLoose", "()Z"⟩
abbrev cX4_degreesBehind : ByteArray := prog_6_method_8_code
def yX4_degreesBehind : MethodName := ⟨RX4, "degreesBehind", "(II)I"⟩
abbrev cX4_laySalt : ByteArray := prog_6_method_9_code
def yX4_laySalt : MethodName := ⟨RX4, "laySalt", "(II)V"⟩
abbrev cX4_passHour : ByteArray := prog_6_method_10_code
def yX4_passHour : MethodName := ⟨RX4, "passHour", "(I)V"⟩
abbrev cX4_stoveAt : ByteArray := prog_6_method_11_code
def yX4_stoveAt : MethodName := ⟨RX4, "stoveAt", "(I)I"⟩
abbrev cX4_breathAt : ByteArray := prog_6_method_12_code
def yX4_breathAt : MethodName := ⟨RX4, "breathAt", "(I)I"⟩
abbrev cX4_setAround : ByteArray := prog_6_method_13_code
def yX4_setAround : MethodName := ⟨RX4, "setAround", "(III)V"⟩
abbrev cX4_iceBehind : ByteArray := prog_6_method_14_code
def yX4_iceBehind : MethodName := ⟨RX4, "iceBehind", "(III)I"⟩
abbrev cX4_freeze : ByteArray := prog_6_method_15_code
def yX4_freeze : MethodName := ⟨RX4, "freeze", "(LFrostLocks$Lock;)V"⟩
abbrev cX4_letGo : ByteArray := prog_6_method_16_code
def yX4_letGo : MethodName := ⟨RX4, "letGo", "(I)V"⟩
abbrev cX4_isNearer : ByteArray := prog_6_method_17_code
def yX4_isNearer : MethodName := ⟨RX4, "isNearer", "(II)Z"⟩
abbrev cX4_atMost : ByteArray := prog_6_method_18_code
def yX4_atMost : MethodName := ⟨RX4, "atMost", "(II)I"⟩
def RX5 : String := "FrostLocks$PrisonReader"
def TX5 : u_T := fun k => match k with
  | 0 => ("FrostLocks$PrisonReader", "law", "LFrostLocks$Law;", true)
  | 1 => ("FrostLocks$PrisonReader", "tokens", "LFrostLocks$Tokens;", true)
  | 2 => ("FrostLocks$PrisonReader", "cellNames", "[J", true)
  | 3 => ("FrostLocks$PrisonReader", "manNames", "[J", true)
  | 4 => ("FrostLocks$PrisonReader", "steps", "[I", true)
  | 5 => ("FrostLocks$PrisonReader", "stepCount", "I", false)
  | 6 => ("FrostLocks$PrisonReader", "firstFact", "I", false)
  | 7 => ("FrostLocks$PrisonReader", "lastFact", "I", false)
  | 8 => ("FrostLocks$PrisonReader", "mildTold", "Z", false)
  | 9 => ("FrostLocks$PrisonReader", "number", "I", false)
  | _ => ("FrostLocks$PrisonReader", "fault", "I", false)
def tyX5 : Nat → FieldType := fun k => match k with
  | 0 => .object "FrostLocks$Law"
  | 1 => .object "FrostLocks$Tokens"
  | 2 => .array .long
  | 3 => .array .long
  | 4 => .array .int
  | 5 => .int
  | 6 => .int
  | 7 => .int
  | 8 => .boolean
  | 9 => .int
  | _ => .int
theorem nmX5 : ∀ a, a < 11 → ∀ b, b < 11 → a ≠ b → (TX5 a).2.1 ≠ (TX5 b).2.1 := by decide +kernel
theorem tyX5_ok : ∀ k, k < 11 → parseFieldDescriptor (TX5 k).2.2.1 = some (tyX5 k) := by decide +kernel
abbrev cX5_init : ByteArray := prog_7_method_1_code
def yX5_init : MethodName := ⟨RX5, "<init>", "(LFrostLocks$Tape;)V"⟩
abbrev cX5_readAll : ByteArray := prog_7_method_2_code
def yX5_readAll : MethodName := ⟨RX5, "readAll", "()I"⟩
abbrev cX5_wrong : ByteArray := prog_7_method_3_code
def yX5_wrong : MethodName := ⟨RX5, "wrong", "(I)Z"⟩
abbrev cX5_readLine : ByteArray := prog_7_method_4_code
def yX5_readLine : MethodName := ⟨RX5, "readLine", "()Z"⟩
abbrev cX5_readFormula : ByteArray := prog_7_method_5_code
def yX5_readFormula : MethodName := ⟨RX5, "readFormula", "(Z)Z"⟩
abbrev cX5_readMild : ByteArray := prog_7_method_6_code
def yX5_readMild : MethodName := ⟨RX5, "readMild", "()Z"⟩
abbrev cX5_readCell : ByteArray := prog_7_method_7_code
def yX5_readCell : MethodName := ⟨RX5, "readCell", "()Z"⟩
abbrev cX5_readDoor : ByteArray := prog_7_method_8_code
def yX5_readDoor : MethodName := ⟨RX5, "readDoor", "()Z"⟩
abbrev cX5_readOther : ByteArray := prog_7_method_9_code
def yX5_readOther : MethodName := ⟨RX5, "readOther", "(I)Z"⟩
abbrev cX5_readMan : ByteArray := prog_7_method_10_code
def yX5_readMan : MethodName := ⟨RX5, "readMan", "()Z"⟩
abbrev cX5_readGuard : ByteArray := prog_7_method_11_code
def yX5_readGuard : MethodName := ⟨RX5, "readGuard", "()Z"⟩
abbrev cX5_readSign : ByteArray := prog_7_method_12_code
def yX5_readSign : MethodName := ⟨RX5, "readSign", "(I)Z"⟩
abbrev cX5_readWord : ByteArray := prog_7_method_13_code
def yX5_readWord : MethodName := ⟨RX5, "readWord", "(LFrostLocks$Word;)Z"⟩
abbrev cX5_readNumber : ByteArray := prog_7_method_14_code
def yX5_readNumber : MethodName := ⟨RX5, "readNumber", "(I)Z"⟩
abbrev cX5_isNewName : ByteArray := prog_7_method_15_code
def yX5_isNewName : MethodName := ⟨RX5, "isNewName", "()Z"⟩
abbrev cX5_isCellName : ByteArray := prog_7_method_16_code
def yX5_isCellName : MethodName := ⟨RX5, "isCellName", "()Z"⟩
abbrev cX5_cellNamed : ByteArray := prog_7_method_17_code
def yX5_cellNamed : MethodName := ⟨RX5, "cellNamed", "(J)I"⟩
abbrev cX5_readLevel : ByteArray := prog_7_method_18_code
def yX5_readLevel : MethodName := ⟨RX5, "readLevel", "(II)Z"⟩
abbrev cX5_operatorOf : ByteArray := prog_7_method_19_code
def yX5_operatorOf : MethodName := ⟨RX5, "operatorOf", "(I)I"⟩
abbrev cX5_readPart : ByteArray := prog_7_method_20_code
def yX5_readPart : MethodName := ⟨RX5, "readPart", "(I)Z"⟩
abbrev cX5_addStep : ByteArray := prog_7_method_21_code
def yX5_addStep : MethodName := ⟨RX5, "addStep", "(II)V"⟩
def RX6 : String := "FrostLocks$Tape"
def TX6 : u_T := fun k => match k with
  | 0 => ("FrostLocks$Tape", "signs", "[B", true)
  | _ => ("FrostLocks$Tape", "length", "I", false)
def tyX6 : Nat → FieldType := fun k => match k with
  | 0 => .array .byte
  | _ => .int
theorem nmX6 : ∀ a, a < 2 → ∀ b, b < 2 → a ≠ b → (TX6 a).2.1 ≠ (TX6 b).2.1 := by decide +kernel
theorem tyX6_ok : ∀ k, k < 2 → parseFieldDescriptor (TX6 k).2.2.1 = some (tyX6 k) := by decide +kernel
abbrev cX6_init : ByteArray := prog_8_method_1_code
def yX6_init : MethodName := ⟨RX6, "<init>", "()V"⟩
abbrev cX6_addBytes : ByteArray := prog_8_method_2_code
def yX6_addBytes : MethodName := ⟨RX6, "addBytes", "(J)V"⟩
def RX7 : String := "FrostLocks$Tokens"
def TX7 : u_T := fun k => match k with
  | 0 => ("FrostLocks$Tokens", "signs", "[B", true)
  | 1 => ("FrostLocks$Tokens", "length", "I", true)
  | 2 => ("FrostLocks$Tokens", "at", "I", false)
  | 3 => ("FrostLocks$Tokens", "kind", "I", false)
  | 4 => ("FrostLocks$Tokens", "place", "I", false)
  | 5 => ("FrostLocks$Tokens", "number", "I", false)
  | 6 => ("FrostLocks$Tokens", "sign", "I", false)
  | 7 => ("FrostLocks$Tokens", "name", "J", false)
  | _ => ("FrostLocks$Tokens", "word", "LFrostLocks$Word;", false)
def tyX7 : Nat → FieldType := fun k => match k with
  | 0 => .array .byte
  | 1 => .int
  | 2 => .int
  | 3 => .int
  | 4 => .int
  | 5 => .int
  | 6 => .int
  | 7 => .long
  | _ => .object "FrostLocks$Word"
theorem nmX7 : ∀ a, a < 9 → ∀ b, b < 9 → a ≠ b → (TX7 a).2.1 ≠ (TX7 b).2.1 := by decide +kernel
theorem tyX7_ok : ∀ k, k < 9 → parseFieldDescriptor (TX7 k).2.2.1 = some (tyX7 k) := by decide +kernel
abbrev cX7_init : ByteArray := prog_9_method_1_code
def yX7_init : MethodName := ⟨RX7, "<init>", "(LFrostLocks$Tape;)V"⟩
abbrev cX7_withLetter : ByteArray := prog_9_method_2_code
def yX7_withLetter : MethodName := ⟨RX7, "withLetter", "(JI)J"⟩
abbrev cX7_isSign : ByteArray := prog_9_method_3_code
def yX7_isSign : MethodName := ⟨RX7, "isSign", "(I)Z"⟩
abbrev cX7_isName : ByteArray := prog_9_method_4_code
def yX7_isName : MethodName := ⟨RX7, "isName", "()Z"⟩
abbrev cX7_next : ByteArray := prog_9_method_5_code
def yX7_next : MethodName := ⟨RX7, "next", "()V"⟩
abbrev cX7_takeWord : ByteArray := prog_9_method_6_code
def yX7_takeWord : MethodName := ⟨RX7, "takeWord", "()V"⟩
abbrev cX7_takeNumber : ByteArray := prog_9_method_7_code
def yX7_takeNumber : MethodName := ⟨RX7, "takeNumber", "()V"⟩
def RX8 : String := "FrostLocks$Word"
def TX8 : u_T := fun k => match k with
  | _ => ("", "", "", false)
def tyX8 : Nat → FieldType := fun k => match k with
  | _ => .int
theorem nmX8 : ∀ a, a < 0 → ∀ b, b < 0 → a ≠ b → (TX8 a).2.1 ≠ (TX8 b).2.1 := by decide +kernel
theorem tyX8_ok : ∀ k, k < 0 → parseFieldDescriptor (TX8 k).2.2.1 = some (tyX8 k) := by decide +kernel
abbrev cX8_named : ByteArray := prog_10_method_4_code
def yX8_named : MethodName := ⟨RX8, "named", "(J)LFrostLocks$Word;"⟩
def RX9 : String := "FrostLocks"
def TX9 : u_T := fun k => match k with
  | 0 => ("FrostLocks", "tape", "LFrostLocks$Tape;", true)
  | 1 => ("FrostLocks", "now", "LFrostLocks$Night;", true)
  | 2 => ("FrostLocks", "trial", "LFrostLocks$Night;", true)
  | 3 => ("FrostLocks", "marks", "[LFrostLocks$Night;", true)
  | 4 => ("FrostLocks", "soonest", "[I", true)
  | 5 => ("FrostLocks", "order", "[I", true)
  | 6 => ("FrostLocks", "coldAhead", "[I", true)
  | 7 => ("FrostLocks", "breathAhead", "[I", true)
  | _ => ("FrostLocks", "weights", "[I", true)
def tyX9 : Nat → FieldType := fun k => match k with
  | 0 => .object "FrostLocks$Tape"
  | 1 => .object "FrostLocks$Night"
  | 2 => .object "FrostLocks$Night"
  | 3 => .array (.object "FrostLocks$Night")
  | 4 => .array .int
  | 5 => .array .int
  | 6 => .array .int
  | 7 => .array .int
  | _ => .array .int
theorem nmX9 : ∀ a, a < 9 → ∀ b, b < 9 → a ≠ b → (TX9 a).2.1 ≠ (TX9 b).2.1 := by decide +kernel
theorem tyX9_ok : ∀ k, k < 9 → parseFieldDescriptor (TX9 k).2.2.1 = some (tyX9 k) := by decide +kernel
abbrev cX9_init : ByteArray := prog_1_method_1_code
def yX9_init : MethodName := ⟨RX9, "<init>", "()V"⟩
abbrev cX9_feed : ByteArray := prog_1_method_2_code
def yX9_feed : MethodName := ⟨RX9, "feed", "(JJJ)I"⟩
abbrev cX9_prison : ByteArray := prog_1_method_3_code
def yX9_prison : MethodName := ⟨RX9, "prison", "()I"⟩
abbrev cX9_cell : ByteArray := prog_1_method_4_code
def yX9_cell : MethodName := ⟨RX9, "cell", "(II)I"⟩
abbrev cX9_door : ByteArray := prog_1_method_5_code
def yX9_door : MethodName := ⟨RX9, "door", "(II)I"⟩
abbrev cX9_man : ByteArray := prog_1_method_6_code
def yX9_man : MethodName := ⟨RX9, "man", "(II)I"⟩
abbrev cX9_degrees : ByteArray := prog_1_method_7_code
def yX9_degrees : MethodName := ⟨RX9, "degrees", "(I)I"⟩
abbrev cX9_pour : ByteArray := prog_1_method_8_code
def yX9_pour : MethodName := ⟨RX9, "pour", "(II)I"⟩
abbrev cX9_salt : ByteArray := prog_1_method_9_code
def yX9_salt : MethodName := ⟨RX9, "salt", "(II)Z"⟩
abbrev cX9_stove : ByteArray := prog_1_method_10_code
def yX9_stove : MethodName := ⟨RX9, "stove", "(II)Z"⟩
abbrev cX9_pardon : ByteArray := prog_1_method_11_code
def yX9_pardon : MethodName := ⟨RX9, "pardon", "(I)Z"⟩
abbrev cX9_hours : ByteArray := prog_1_method_12_code
def yX9_hours : MethodName := ⟨RX9, "hours", "(I)I"⟩
abbrev cX9_soon : ByteArray := prog_1_method_13_code
def yX9_soon : MethodName := ⟨RX9, "soon", "(II)I"⟩
abbrev cX9_needs : ByteArray := prog_1_method_14_code
def yX9_needs : MethodName := ⟨RX9, "needs", "(II)I"⟩
abbrev cX9_first : ByteArray := prog_1_method_15_code
def yX9_first : MethodName := ⟨RX9, "first", "(II)I"⟩
abbrev cX9_enough : ByteArray := prog_1_method_16_code
def yX9_enough : MethodName := ⟨RX9, "enough", "(II)I"⟩
abbrev cX9_plan : ByteArray := prog_1_method_17_code
def yX9_plan : MethodName := ⟨RX9, "plan", "(II)I"⟩
abbrev cX9_escape : ByteArray := prog_1_method_18_code
def yX9_escape : MethodName := ⟨RX9, "escape", "(II)I"⟩
abbrev cX9_salted : ByteArray := prog_1_method_19_code
def yX9_salted : MethodName := ⟨RX9, "salted", "(I)I"⟩
abbrev cX9_beside : ByteArray := prog_1_method_20_code
def yX9_beside : MethodName := ⟨RX9, "beside", "(I)I"⟩
abbrev cX9_thaw : ByteArray := prog_1_method_21_code
def yX9_thaw : MethodName := ⟨RX9, "thaw", "(I)I"⟩
abbrev cX9_amnesty : ByteArray := prog_1_method_22_code
def yX9_amnesty : MethodName := ⟨RX9, "amnesty", "(II)I"⟩
abbrev cX9_lots : ByteArray := prog_1_method_23_code
def yX9_lots : MethodName := ⟨RX9, "lots", "(IIII)I"⟩
abbrev cX9_mark : ByteArray := prog_1_method_24_code
def yX9_mark : MethodName := ⟨RX9, "mark", "(IZ)Z"⟩
abbrev cX9_count : ByteArray := prog_1_method_25_code
def yX9_count : MethodName := ⟨RX9, "count", "(I)I"⟩
abbrev cX9_isBelow : ByteArray := prog_1_method_26_code
def yX9_isBelow : MethodName := ⟨RX9, "isBelow", "(II)Z"⟩
abbrev cX9_isWithin : ByteArray := prog_1_method_27_code
def yX9_isWithin : MethodName := ⟨RX9, "isWithin", "(III)Z"⟩
abbrev cX9_isAhead : ByteArray := prog_1_method_28_code
def yX9_isAhead : MethodName := ⟨RX9, "isAhead", "(I)Z"⟩
abbrev cX9_isHeld : ByteArray := prog_1_method_29_code
def yX9_isHeld : MethodName := ⟨RX9, "isHeld", "(I)Z"⟩
abbrev cX9_findSoonest : ByteArray := prog_1_method_30_code
def yX9_findSoonest : MethodName := ⟨RX9, "findSoonest", "(I)V"⟩
abbrev cX9_noteLoose : ByteArray := prog_1_method_31_code
def yX9_noteLoose : MethodName := ⟨RX9, "noteLoose", "(II)I"⟩
abbrev cX9_orderDoors : ByteArray := prog_1_method_32_code
def yX9_orderDoors : MethodName := ⟨RX9, "orderDoors", "(I)V"⟩
abbrev cX9_foresee : ByteArray := prog_1_method_33_code
def yX9_foresee : MethodName := ⟨RX9, "foresee", "(II)V"⟩
abbrev cX9_isFirmWith : ByteArray := prog_1_method_34_code
def yX9_isFirmWith : MethodName := ⟨RX9, "isFirmWith", "(III)Z"⟩
abbrev cX9_doorWeight : ByteArray := prog_1_method_35_code
def yX9_doorWeight : MethodName := ⟨RX9, "doorWeight", "(I)I"⟩
abbrev cX9_weightOf : ByteArray := prog_1_method_36_code
def yX9_weightOf : MethodName := ⟨RX9, "weightOf", "(I)I"⟩
abbrev cX9_weighWays : ByteArray := prog_1_method_37_code
def yX9_weighWays : MethodName := ⟨RX9, "weighWays", "()V"⟩
abbrev cX9_weighDoor : ByteArray := prog_1_method_38_code
def yX9_weighDoor : MethodName := ⟨RX9, "weighDoor", "(III)V"⟩
abbrev cX9_doorOfWay : ByteArray := prog_1_method_39_code
def yX9_doorOfWay : MethodName := ⟨RX9, "doorOfWay", "(II)I"⟩
abbrev cX9_firstDoorOfWay : ByteArray := prog_1_method_40_code
def yX9_firstDoorOfWay : MethodName := ⟨RX9, "firstDoorOfWay", "(I)I"⟩
def RX10 : String := "FrostLocksModel"
def TX10 : u_T := fun k => match k with
  | 0 => ("FrostLocksModel", "thrown", "I", false)
  | 1 => ("FrostLocksModel", "taped", "I", false)
  | 2 => ("FrostLocksModel", "tape", "[I", true)
  | 3 => ("FrostLocksModel", "size", "I", false)
  | 4 => ("FrostLocksModel", "place", "I", false)
  | 5 => ("FrostLocksModel", "begin", "I", false)
  | 6 => ("FrostLocksModel", "token", "I", false)
  | 7 => ("FrostLocksModel", "word", "J", false)
  | 8 => ("FrostLocksModel", "told", "I", false)
  | 9 => ("FrostLocksModel", "wrong", "I", false)
  | 10 => ("FrostLocksModel", "cells", "[I", true)
  | 11 => ("FrostLocksModel", "doors", "[I", true)
  | 12 => ("FrostLocksModel", "men", "[I", true)
  | 13 => ("FrostLocksModel", "guards", "[I", true)
  | 14 => ("FrostLocksModel", "mild", "[I", true)
  | 15 => ("FrostLocksModel", "cellName", "[J", true)
  | 16 => ("FrostLocksModel", "manName", "[J", true)
  | 17 => ("FrostLocksModel", "heat", "[I", true)
  | 18 => ("FrostLocksModel", "doorOf", "[I", true)
  | 19 => ("FrostLocksModel", "doorTo", "[I", true)
  | 20 => ("FrostLocksModel", "thick", "[I", true)
  | 21 => ("FrostLocksModel", "manIn", "[I", true)
  | 22 => ("FrostLocksModel", "manSalt", "[I", true)
  | 23 => ("FrostLocksModel", "waits", "[I", true)
  | 24 => ("FrostLocksModel", "roundLong", "[I", true)
  | 25 => ("FrostLocksModel", "rounds", "[I", true)
  | 26 => ("FrostLocksModel", "lineFrom", "[I", true)
  | 27 => ("FrostLocksModel", "lineTo", "[I", true)
  | 28 => ("FrostLocksModel", "codes", "[I", true)
  | 29 => ("FrostLocksModel", "code", "I", false)
  | 30 => ("FrostLocksModel", "isIce", "Z", false)
  | 31 => ("FrostLocksModel", "isMildTold", "Z", false)
  | 32 => ("FrostLocksModel", "opened", "[I", true)
  | 33 => ("FrostLocksModel", "compared", "[Z", true)
  | 34 => ("FrostLocksModel", "kept", "[I", true)
  | 35 => ("FrostLocksModel", "keptBy", "[I", true)
  | 36 => ("FrostLocksModel", "ahead", "[I", true)
  | 37 => ("FrostLocksModel", "against", "[I", true)
  | 38 => ("FrostLocksModel", "sum", "[I", true)
  | 39 => ("FrostLocksModel", "sumBy", "[I", true)
  | 40 => ("FrostLocksModel", "term", "[I", true)
  | 41 => ("FrostLocksModel", "termBy", "[I", true)
  | 42 => ("FrostLocksModel", "byNot", "[I", true)
  | 43 => ("FrostLocksModel", "valueOf", "[I", true)
  | 44 => ("FrostLocksModel", "given", "I", false)
  | 45 => ("FrostLocksModel", "s", "[I", true)
  | 46 => ("FrostLocksModel", "aside", "[I", true)
  | 47 => ("FrostLocksModel", "marked", "[I", true)
  | 48 => ("FrostLocksModel", "far", "[I", true)
  | 49 => ("FrostLocksModel", "soonOf", "[I", true)
  | 50 => ("FrostLocksModel", "order", "[I", true)
  | 51 => ("FrostLocksModel", "bestSalt", "I", false)
  | 52 => ("FrostLocksModel", "bestDoors", "I", false)
  | 53 => ("FrostLocksModel", "bestWay", "[I", true)
  | 54 => ("FrostLocksModel", "way", "[I", true)
  | 55 => ("FrostLocksModel", "g", "J", false)
  | _ => ("FrostLocksModel", "isLaid", "[Z", true)
def tyX10 : Nat → FieldType := fun k => match k with
  | 0 => .int
  | 1 => .int
  | 2 => .array .int
  | 3 => .int
  | 4 => .int
  | 5 => .int
  | 6 => .int
  | 7 => .long
  | 8 => .int
  | 9 => .int
  | 10 => .array .int
  | 11 => .array .int
  | 12 => .array .int
  | 13 => .array .int
  | 14 => .array .int
  | 15 => .array .long
  | 16 => .array .long
  | 17 => .array .int
  | 18 => .array .int
  | 19 => .array .int
  | 20 => .array .int
  | 21 => .array .int
  | 22 => .array .int
  | 23 => .array .int
  | 24 => .array .int
  | 25 => .array .int
  | 26 => .array .int
  | 27 => .array .int
  | 28 => .array .int
  | 29 => .int
  | 30 => .boolean
  | 31 => .boolean
  | 32 => .array .int
  | 33 => .array .boolean
  | 34 => .array .int
  | 35 => .array .int
  | 36 => .array .int
  | 37 => .array .int
  | 38 => .array .int
  | 39 => .array .int
  | 40 => .array .int
  | 41 => .array .int
  | 42 => .array .int
  | 43 => .array .int
  | 44 => .int
  | 45 => .array .int
  | 46 => .array .int
  | 47 => .array .int
  | 48 => .array .int
  | 49 => .array .int
  | 50 => .array .int
  | 51 => .int
  | 52 => .int
  | 53 => .array .int
  | 54 => .array .int
  | 55 => .long
  | _ => .array .boolean
theorem nmX10 : ∀ a, a < 57 → ∀ b, b < 57 → a ≠ b → (TX10 a).2.1 ≠ (TX10 b).2.1 := by decide +kernel
theorem tyX10_ok : ∀ k, k < 57 → parseFieldDescriptor (TX10 k).2.2.1 = some (tyX10 k) := by decide +kernel
abbrev cX10_init : ByteArray := prog_12_method_1_code
def yX10_init : MethodName := ⟨RX10, "<init>", "()V"⟩
abbrev cX10_thrown : ByteArray := prog_12_method_2_code
def yX10_thrown : MethodName := ⟨RX10, "thrown", "()I"⟩
abbrev cX10_within : ByteArray := prog_12_method_3_code
def yX10_within : MethodName := ⟨RX10, "within", "(III)Z"⟩
abbrev cX10_between : ByteArray := prog_12_method_4_code
def yX10_between : MethodName := ⟨RX10, "between", "(III)I"⟩
abbrev cX10_gcd : ByteArray := prog_12_method_5_code
def yX10_gcd : MethodName := ⟨RX10, "gcd", "(II)I"⟩
abbrev cX10_feed : ByteArray := prog_12_method_6_code
def yX10_feed : MethodName := ⟨RX10, "feed", "(JJJ)I"⟩
abbrev cX10_signAt : ByteArray := prog_12_method_7_code
def yX10_signAt : MethodName := ⟨RX10, "signAt", "(I)I"⟩
abbrev cX10_nextToken : ByteArray := prog_12_method_8_code
def yX10_nextToken : MethodName := ⟨RX10, "nextToken", "()V"⟩
abbrev cX10_isWord : ByteArray := prog_12_method_9_code
def yX10_isWord : MethodName := ⟨RX10, "isWord", "(J)Z"⟩
abbrev cX10_isSign : ByteArray := prog_12_method_10_code
def yX10_isSign : MethodName := ⟨RX10, "isSign", "(I)Z"⟩
abbrev cX10_fails : ByteArray := prog_12_method_11_code
def yX10_fails : MethodName := ⟨RX10, "fails", "(I)Z"⟩
abbrev cX10_puts : ByteArray := prog_12_method_12_code
def yX10_puts : MethodName := ⟨RX10, "puts", "(I)V"⟩
abbrev cX10_fact : ByteArray := prog_12_method_13_code
def yX10_fact : MethodName := ⟨RX10, "fact", "()I"⟩
abbrev cX10_reads : ByteArray := prog_12_method_14_code
def yX10_reads : MethodName := ⟨RX10, "reads", "()Z"⟩
abbrev cX10_opens : ByteArray := prog_12_method_15_code
def yX10_opens : MethodName := ⟨RX10, "opens", "(I)V"⟩
abbrev cX10_sums : ByteArray := prog_12_method_16_code
def yX10_sums : MethodName := ⟨RX10, "sums", "(I)V"⟩
abbrev cX10_tests : ByteArray := prog_12_method_17_code
def yX10_tests : MethodName := ⟨RX10, "tests", "(I)V"⟩
abbrev cX10_worked : ByteArray := prog_12_method_18_code
def yX10_worked : MethodName := ⟨RX10, "worked", "(I)I"⟩
abbrev cX10_isKept : ByteArray := prog_12_method_19_code
def yX10_isKept : MethodName := ⟨RX10, "isKept", "()Z"⟩
abbrev cX10_cellNamed : ByteArray := prog_12_method_20_code
def yX10_cellNamed : MethodName := ⟨RX10, "cellNamed", "()I"⟩
abbrev cX10_isNew : ByteArray := prog_12_method_21_code
def yX10_isNew : MethodName := ⟨RX10, "isNew", "()Z"⟩
abbrev cX10_needsNumber : ByteArray := prog_12_method_22_code
def yX10_needsNumber : MethodName := ⟨RX10, "needsNumber", "(II)Z"⟩
abbrev cX10_needsWord : ByteArray := prog_12_method_23_code
def yX10_needsWord : MethodName := ⟨RX10, "needsWord", "(J)Z"⟩
abbrev cX10_needsCell : ByteArray := prog_12_method_24_code
def yX10_needsCell : MethodName := ⟨RX10, "needsCell", "()Z"⟩
abbrev cX10_ends : ByteArray := prog_12_method_25_code
def yX10_ends : MethodName := ⟨RX10, "ends", "()Z"⟩
abbrev cX10_readsLaw : ByteArray := prog_12_method_26_code
def yX10_readsLaw : MethodName := ⟨RX10, "readsLaw", "(I)Z"⟩
abbrev cX10_readsMild : ByteArray := prog_12_method_27_code
def yX10_readsMild : MethodName := ⟨RX10, "readsMild", "()Z"⟩
abbrev cX10_readsCell : ByteArray := prog_12_method_28_code
def yX10_readsCell : MethodName := ⟨RX10, "readsCell", "()Z"⟩
abbrev cX10_readsDoor : ByteArray := prog_12_method_29_code
def yX10_readsDoor : MethodName := ⟨RX10, "readsDoor", "()Z"⟩
abbrev cX10_readsMan : ByteArray := prog_12_method_30_code
def yX10_readsMan : MethodName := ⟨RX10, "readsMan", "()Z"⟩
abbrev cX10_readsGuard : ByteArray := prog_12_method_31_code
def yX10_readsGuard : MethodName := ⟨RX10, "readsGuard", "()Z"⟩
abbrev cX10_readsAll : ByteArray := prog_12_method_32_code
def yX10_readsAll : MethodName := ⟨RX10, "readsAll", "()Z"⟩
abbrev cX10_moves : ByteArray := prog_12_method_33_code
def yX10_moves : MethodName := ⟨RX10, "moves", "([IIII)V"⟩
abbrev cX10_lays : ByteArray := prog_12_method_34_code
def yX10_lays : MethodName := ⟨RX10, "lays", "(II)V"⟩
abbrev cX10_copies : ByteArray := prog_12_method_35_code
def yX10_copies : MethodName := ⟨RX10, "copies", "([II[II)V"⟩
abbrev cX10_prison : ByteArray := prog_12_method_36_code
def yX10_prison : MethodName := ⟨RX10, "prison", "()I"⟩
abbrev cX10_isCell : ByteArray := prog_12_method_37_code
def yX10_isCell : MethodName := ⟨RX10, "isCell", "(I)Z"⟩
abbrev cX10_isDoor : ByteArray := prog_12_method_38_code
def yX10_isDoor : MethodName := ⟨RX10, "isDoor", "(I)Z"⟩
abbrev cX10_isMan : ByteArray := prog_12_method_39_code
def yX10_isMan : MethodName := ⟨RX10, "isMan", "(I)Z"⟩
abbrev cX10_isHeld : ByteArray := prog_12_method_40_code
def yX10_isHeld : MethodName := ⟨RX10, "isHeld", "(I)Z"⟩
abbrev cX10_ways : ByteArray := prog_12_method_41_code
def yX10_ways : MethodName := ⟨RX10, "ways", "()V"⟩
abbrev cX10_leads : ByteArray := prog_12_method_42_code
def yX10_leads : MethodName := ⟨RX10, "leads", "(II)I"⟩
abbrev cX10_farOf : ByteArray := prog_12_method_43_code
def yX10_farOf : MethodName := ⟨RX10, "farOf", "(I)I"⟩
abbrev cX10_hasGuard : ByteArray := prog_12_method_44_code
def yX10_hasGuard : MethodName := ⟨RX10, "hasGuard", "(II)Z"⟩
abbrev cX10_guardsIn : ByteArray := prog_12_method_45_code
def yX10_guardsIn : MethodName := ⟨RX10, "guardsIn", "(II)I"⟩
abbrev cX10_menIn : ByteArray := prog_12_method_46_code
def yX10_menIn : MethodName := ⟨RX10, "menIn", "(I)I"⟩
abbrev cX10_bits : ByteArray := prog_12_method_47_code
def yX10_bits : MethodName := ⟨RX10, "bits", "(I)I"⟩
abbrev cX10_cell : ByteArray := prog_12_method_48_code
def yX10_cell : MethodName := ⟨RX10, "cell", "(II)I"⟩
abbrev cX10_door : ByteArray := prog_12_method_49_code
def yX10_door : MethodName := ⟨RX10, "door", "(II)I"⟩
abbrev cX10_man : ByteArray := prog_12_method_50_code
def yX10_man : MethodName := ⟨RX10, "man", "(II)I"⟩
abbrev cX10_degreesAt : ByteArray := prog_12_method_51_code
def yX10_degreesAt : MethodName := ⟨RX10, "degreesAt", "(II)I"⟩
abbrev cX10_degrees : ByteArray := prog_12_method_52_code
def yX10_degrees : MethodName := ⟨RX10, "degrees", "(I)I"⟩
abbrev cX10_poursIn : ByteArray := prog_12_method_53_code
def yX10_poursIn : MethodName := ⟨RX10, "poursIn", "(II)I"⟩
abbrev cX10_pour : ByteArray := prog_12_method_54_code
def yX10_pour : MethodName := ⟨RX10, "pour", "(II)I"⟩
abbrev cX10_salt : ByteArray := prog_12_method_55_code
def yX10_salt : MethodName := ⟨RX10, "salt", "(II)Z"⟩
abbrev cX10_stove : ByteArray := prog_12_method_56_code
def yX10_stove : MethodName := ⟨RX10, "stove", "(II)Z"⟩
abbrev cX10_pardon : ByteArray := prog_12_method_57_code
def yX10_pardon : MethodName := ⟨RX10, "pardon", "(I)Z"⟩
abbrev cX10_freezes : ByteArray := prog_12_method_58_code
def yX10_freezes : MethodName := ⟨RX10, "freezes", "(IIIIII)I"⟩
abbrev cX10_turns : ByteArray := prog_12_method_59_code
def yX10_turns : MethodName := ⟨RX10, "turns", "(III)V"⟩
abbrev cX10_inAndBy : ByteArray := prog_12_method_60_code
def yX10_inAndBy : MethodName := ⟨RX10, "inAndBy", "(I)I"⟩
abbrev cX10_frosts : ByteArray := prog_12_method_61_code
def yX10_frosts : MethodName := ⟨RX10, "frosts", "(I)V"⟩
abbrev cX10_walks : ByteArray := prog_12_method_62_code
def yX10_walks : MethodName := ⟨RX10, "walks", "(I)V"⟩
abbrev cX10_passes : ByteArray := prog_12_method_63_code
def yX10_passes : MethodName := ⟨RX10, "passes", "(I)V"⟩
abbrev cX10_hours : ByteArray := prog_12_method_64_code
def yX10_hours : MethodName := ⟨RX10, "hours", "(I)I"⟩
abbrev cX10_isSome : ByteArray := prog_12_method_65_code
def yX10_isSome : MethodName := ⟨RX10, "isSome", "(I)Z"⟩
abbrev cX10_soons : ByteArray := prog_12_method_66_code
def yX10_soons : MethodName := ⟨RX10, "soons", "(I)V"⟩
abbrev cX10_soon : ByteArray := prog_12_method_67_code
def yX10_soon : MethodName := ⟨RX10, "soon", "(II)I"⟩
abbrev cX10_holds : ByteArray := prog_12_method_68_code
def yX10_holds : MethodName := ⟨RX10, "holds", "(III)Z"⟩
abbrev cX10_needs : ByteArray := prog_12_method_69_code
def yX10_needs : MethodName := ⟨RX10, "needs", "(II)I"⟩
abbrev cX10_orders : ByteArray := prog_12_method_70_code
def yX10_orders : MethodName := ⟨RX10, "orders", "(I)V"⟩
abbrev cX10_first : ByteArray := prog_12_method_71_code
def yX10_first : MethodName := ⟨RX10, "first", "(II)I"⟩
abbrev cX10_enough : ByteArray := prog_12_method_72_code
def yX10_enough : MethodName := ⟨RX10, "enough", "(II)I"⟩
abbrev cX10_tries : ByteArray := prog_12_method_73_code
def yX10_tries : MethodName := ⟨RX10, "tries", "(IIII)V"⟩
abbrev cX10_plan : ByteArray := prog_12_method_74_code
def yX10_plan : MethodName := ⟨RX10, "plan", "(II)I"⟩
abbrev cX10_escape : ByteArray := prog_12_method_75_code
def yX10_escape : MethodName := ⟨RX10, "escape", "(II)I"⟩
abbrev cX10_salted : ByteArray := prog_12_method_76_code
def yX10_salted : MethodName := ⟨RX10, "salted", "(I)I"⟩
abbrev cX10_beside : ByteArray := prog_12_method_77_code
def yX10_beside : MethodName := ⟨RX10, "beside", "(I)I"⟩
abbrev cX10_thaw : ByteArray := prog_12_method_78_code
def yX10_thaw : MethodName := ⟨RX10, "thaw", "(I)I"⟩
abbrev cX10_held : ByteArray := prog_12_method_79_code
def yX10_held : MethodName := ⟨RX10, "held", "()I"⟩
abbrev cX10_amnesty : ByteArray := prog_12_method_80_code
def yX10_amnesty : MethodName := ⟨RX10, "amnesty", "(II)I"⟩
abbrev cX10_draws : ByteArray := prog_12_method_81_code
def yX10_draws : MethodName := ⟨RX10, "draws", "(I)I"⟩
abbrev cX10_lots : ByteArray := prog_12_method_82_code
def yX10_lots : MethodName := ⟨RX10, "lots", "(IIII)I"⟩
abbrev cX10_mark : ByteArray := prog_12_method_83_code
def yX10_mark : MethodName := ⟨RX10, "mark", "(IZ)Z"⟩
abbrev cX10_count : ByteArray := prog_12_method_84_code
def yX10_count : MethodName := ⟨RX10, "count", "(I)I"⟩
def RJx145de : String := "java/io/Serializable"
def RJx9f9b0 : String := "java/lang/CharSequence"
def RJ11 : String := "java/lang/Character"
abbrev cJ11_isValidCodePoint_9a6ad : ByteArray := prog_15_method_11_code
def yJ11_isValidCodePoint_9a6ad : MethodName := ⟨RJ11, "isValidCodePoint", "(I)Z"⟩
abbrev cJ11_highSurrogate_5068e : ByteArray := prog_15_method_28_code
def yJ11_highSurrogate_5068e : MethodName := ⟨RJ11, "highSurrogate", "(I)C"⟩
abbrev cJ11_lowSurrogate_5068e : ByteArray := prog_15_method_29_code
def yJ11_lowSurrogate_5068e : MethodName := ⟨RJ11, "lowSurrogate", "(I)C"⟩
def RJx8e188 : String := "java/lang/Cloneable"
def RJxb160c : String := "java/lang/Comparable"
def RJx29ce0 : String := "java/lang/Enum"
def RJ6 : String := "java/lang/Integer"
abbrev cJ6_bitCount_0f7a4 : ByteArray := prog_20_method_49_code
def yJ6_bitCount_0f7a4 : MethodName := ⟨RJ6, "bitCount", "(I)I"⟩
def RJ9 : String := "java/lang/Math"
abbrev cJ9_floorMod_7cf53 : ByteArray := prog_21_method_50_code
def yJ9_floorMod_7cf53 : MethodName := ⟨RJ9, "floorMod", "(II)I"⟩
abbrev cJ9_max_7cf53 : ByteArray := prog_21_method_65_code
def yJ9_max_7cf53 : MethodName := ⟨RJ9, "max", "(II)I"⟩
abbrev cJ9_min_7cf53 : ByteArray := prog_21_method_69_code
def yJ9_min_7cf53 : MethodName := ⟨RJ9, "min", "(II)I"⟩
def RJ0 : String := "java/lang/String"
abbrev cJ0_length_8abf5 : ByteArray := prog_23_method_54_code
def yJ0_length_8abf5 : MethodName := ⟨RJ0, "length", "()I"⟩
abbrev cJ0_indexOf_0f7a4 : ByteArray := prog_23_method_79_code
def yJ0_indexOf_0f7a4 : MethodName := ⟨RJ0, "indexOf", "(I)I"⟩
abbrev cJ0_indexOf_7cf53 : ByteArray := prog_23_method_80_code
def yJ0_indexOf_7cf53 : MethodName := ⟨RJ0, "indexOf", "(II)I"⟩
abbrev cJ0_coder_7d493 : ByteArray := prog_23_method_152_code
def yJ0_coder_7d493 : MethodName := ⟨RJ0, "coder", "()B"⟩
abbrev cJ0_isLatin1_aae02 : ByteArray := prog_23_method_154_code
def yJ0_isLatin1_aae02 : MethodName := ⟨RJ0, "isLatin1", "()Z"⟩
abbrev cJ0_checkBoundsBeginEnd_23922 : ByteArray := prog_23_method_158_code
def yJ0_checkBoundsBeginEnd_23922 : MethodName := ⟨RJ0, "checkBoundsBeginEnd", "(III)V"⟩
def RJ1 : String := "java/lang/StringLatin1"
abbrev cJ1_canEncode_9a6ad : ByteArray := prog_24_method_4_code
def yJ1_canEncode_9a6ad : MethodName := ⟨RJ1, "canEncode", "(I)Z"⟩
abbrev cJ1_indexOf_4cfef : ByteArray := prog_24_method_22_code
def yJ1_indexOf_4cfef : MethodName := ⟨RJ1, "indexOf", "([BIII)I"⟩
abbrev cJ1_indexOfChar_4cfef : ByteArray := prog_24_method_23_code
def yJ1_indexOfChar_4cfef : MethodName := ⟨RJ1, "indexOfChar", "([BIII)I"⟩
def RJ2 : String := "java/lang/StringUTF16"
abbrev cJ2_getChar_3b067 : ByteArray := prog_25_method_5_code
def yJ2_getChar_3b067 : MethodName := ⟨RJ2, "getChar", "([BI)C"⟩
abbrev cJ2_length_9d52b : ByteArray := prog_25_method_6_code
def yJ2_length_9d52b : MethodName := ⟨RJ2, "length", "([B)I"⟩
abbrev cJ2_indexOf_4cfef : ByteArray := prog_25_method_40_code
def yJ2_indexOf_4cfef : MethodName := ⟨RJ2, "indexOf", "([BIII)I"⟩
abbrev cJ2_indexOfChar_4cfef : ByteArray := prog_25_method_47_code
def yJ2_indexOfChar_4cfef : MethodName := ⟨RJ2, "indexOfChar", "([BIII)I"⟩
abbrev cJ2_indexOfCharUnsafe_4cfef : ByteArray := prog_25_method_48_code
def yJ2_indexOfCharUnsafe_4cfef : MethodName := ⟨RJ2, "indexOfCharUnsafe", "([BIII)I"⟩
abbrev cJ2_indexOfSupplementary_4cfef : ByteArray := prog_25_method_49_code
def yJ2_indexOfSupplementary_4cfef : MethodName := ⟨RJ2, "indexOfSupplementary", "([BIII)I"⟩
abbrev cJ2_checkBoundsBeginEnd_d044e : ByteArray := prog_25_method_93_code
def yJ2_checkBoundsBeginEnd_d044e : MethodName := ⟨RJ2, "checkBoundsBeginEnd", "(II[B)V"⟩
def RJ10 : String := "java/lang/System"
def RJxfd54e : String := "java/lang/constant/Constable"
def RJx3cf43 : String := "java/lang/constant/ConstantDesc"
def RJ7 : String := "java/util/Arrays"
abbrev cJ7_fill_53178 : ByteArray := prog_30_method_103_code
def yJ7_fill_53178 : MethodName := ⟨RJ7, "fill", "([II)V"⟩
abbrev cJ7_copyOf_59c91 : ByteArray := prog_30_method_123_code
def yJ7_copyOf_59c91 : MethodName := ⟨RJ7, "copyOf", "([II)[I"⟩
def RJ3 : String := "jdk/internal/util/Preconditions"
abbrev cJ3_checkFromToIndex_8c36e : ByteArray := prog_32_method_12_code
def yJ3_checkFromToIndex_8c36e : MethodName := ⟨RJ3, "checkFromToIndex", "(IIILjava/util/function/BiFunction;)I"⟩
def RL : String := "FrostLocksLaw"
abbrev cL_man : ByteArray := method_3_code
def yL_man : MethodName := ⟨RL, "man", "(LFrostLocks;II[J)I"⟩
abbrev cL_degrees : ByteArray := method_4_code
def yL_degrees : MethodName := ⟨RL, "degrees", "(LFrostLocks;I[J)I"⟩
abbrev cL_law : ByteArray := code
def yL_law : MethodName := ⟨RL, "law", "([I)Z"⟩
end
section
theorem dX0_init_0 : decode cX0_init 0 = .ok (.aload_n 0, 1) := by decide +kernel
theorem dX0_init_1 : decode cX0_init 1 = .ok (.invokespecial 1, 3) := by decide +kernel
theorem dX0_init_4 : decode cX0_init 4 = .ok (.aload_n 0, 1) := by decide +kernel
theorem dX0_init_5 : decode cX0_init 5 = .ok (.iload_n 1, 1) := by decide +kernel
theorem dX0_init_6 : decode cX0_init 6 = .ok (.i2l, 1) := by decide +kernel
theorem dX0_init_7 : decode cX0_init 7 = .ok (.putfield 7, 3) := by decide +kernel
theorem dX0_init_10 : decode cX0_init 10 = .ok (.return_, 1) := by decide +kernel
theorem dX0_drawBelow_0 : decode cX0_drawBelow 0 = .ok (.aload_n 0, 1) := by decide +kernel
theorem dX0_drawBelow_1 : decode cX0_drawBelow 1 = .ok (.aload_n 0, 1) := by decide +kernel
theorem dX0_drawBelow_2 : decode cX0_drawBelow 2 = .ok (.getfield 7, 3) := by decide +kernel
theorem dX0_drawBelow_5 : decode cX0_drawBelow 5 = .ok (.ldc2_w 13, 3) := by decide +kernel
theorem dX0_drawBelow_8 : decode cX0_drawBelow 8 = .ok (.lmul, 1) := by decide +kernel
theorem dX0_drawBelow_9 : decode cX0_drawBelow 9 = .ok (.ldc2_w 15, 3) := by decide +kernel
theorem dX0_drawBelow_12 : decode cX0_drawBelow 12 = .ok (.ladd, 1) := by decide +kernel
theorem dX0_drawBelow_13 : decode cX0_drawBelow 13 = .ok (.ldc2_w 17, 3) := by decide +kernel
theorem dX0_drawBelow_16 : decode cX0_drawBelow 16 = .ok (.lrem, 1) := by decide +kernel
theorem dX0_drawBelow_17 : decode cX0_drawBelow 17 = .ok (.putfield 7, 3) := by decide +kernel
theorem dX0_drawBelow_20 : decode cX0_drawBelow 20 = .ok (.iload_n 1, 1) := by decide +kernel
theorem dX0_drawBelow_21 : decode cX0_drawBelow 21 = .ok (.ifCond .le 18, 3) := by decide +kernel
theorem dX0_drawBelow_24 : decode cX0_drawBelow 24 = .ok (.aload_n 0, 1) := by decide +kernel
theorem dX0_drawBelow_25 : decode cX0_drawBelow 25 = .ok (.getfield 7, 3) := by decide +kernel
theorem dX0_drawBelow_28 : decode cX0_drawBelow 28 = .ok (.ldc2_w 19, 3) := by decide +kernel
theorem dX0_drawBelow_31 : decode cX0_drawBelow 31 = .ok (.ldiv, 1) := by decide +kernel
theorem dX0_drawBelow_32 : decode cX0_drawBelow 32 = .ok (.iload_n 1, 1) := by decide +kernel
theorem dX0_drawBelow_33 : decode cX0_drawBelow 33 = .ok (.i2l, 1) := by decide +kernel
theorem dX0_drawBelow_34 : decode cX0_drawBelow 34 = .ok (.lrem, 1) := by decide +kernel
theorem dX0_drawBelow_35 : decode cX0_drawBelow 35 = .ok (.l2i, 1) := by decide +kernel
theorem dX0_drawBelow_36 : decode cX0_drawBelow 36 = .ok (.goto 4, 3) := by decide +kernel
theorem dX0_drawBelow_39 : decode cX0_drawBelow 39 = .ok (.iconst 0, 1) := by decide +kernel
theorem dX0_drawBelow_40 : decode cX0_drawBelow 40 = .ok (.ireturn, 1) := by decide +kernel
theorem dX1_init_0 : decode cX1_init 0 = .ok (.aload_n 0, 1) := by decide +kernel
theorem dX1_init_1 : decode cX1_init 1 = .ok (.invokespecial 1, 3) := by decide +kernel
theorem dX1_init_4 : decode cX1_init 4 = .ok (.aload_n 0, 1) := by decide +kernel
theorem dX1_init_5 : decode cX1_init 5 = .ok (.bipush 32, 2) := by decide +kernel
theorem dX1_init_7 : decode cX1_init 7 = .ok (.newarray .int, 2) := by decide +kernel
theorem dX1_init_9 : decode cX1_init 9 = .ok (.putfield 9, 3) := by decide +kernel
theorem dX1_init_12 : decode cX1_init 12 = .ok (.aload_n 0, 1) := by decide +kernel
theorem dX1_init_13 : decode cX1_init 13 = .ok (.aload_n 1, 1) := by decide +kernel
theorem dX1_init_14 : decode cX1_init 14 = .ok (.iload_n 2, 1) := by decide +kernel
theorem dX1_init_15 : decode cX1_init 15 = .ok (.invokestatic 13, 3) := by decide +kernel
theorem dX1_init_18 : decode cX1_init 18 = .ok (.putfield 19, 3) := by decide +kernel
theorem dX1_init_21 : decode cX1_init 21 = .ok (.return_, 1) := by decide +kernel
theorem dX1_stepOf_0 : decode cX1_stepOf 0 = .ok (.iload_n 1, 1) := by decide +kernel
theorem dX1_stepOf_1 : decode cX1_stepOf 1 = .ok (.bipush 16, 2) := by decide +kernel
theorem dX1_stepOf_3 : decode cX1_stepOf 3 = .ok (.imul, 1) := by decide +kernel
theorem dX1_stepOf_4 : decode cX1_stepOf 4 = .ok (.iload_n 0, 1) := by decide +kernel
theorem dX1_stepOf_5 : decode cX1_stepOf 5 = .ok (.iadd, 1) := by decide +kernel
theorem dX1_stepOf_6 : decode cX1_stepOf 6 = .ok (.ireturn, 1) := by decide +kernel
theorem dX1_valueBy_0 : decode cX1_valueBy 0 = .ok (.iconst 0, 1) := by decide +kernel
theorem dX1_valueBy_1 : decode cX1_valueBy 1 = .ok (.istore_n 2, 1) := by decide +kernel
theorem dX1_valueBy_2 : decode cX1_valueBy 2 = .ok (.iconst 0, 1) := by decide +kernel
theorem dX1_valueBy_3 : decode cX1_valueBy 3 = .ok (.istore_n 3, 1) := by decide +kernel
theorem dX1_valueBy_4 : decode cX1_valueBy 4 = .ok (.iload_n 3, 1) := by decide +kernel
theorem dX1_valueBy_5 : decode cX1_valueBy 5 = .ok (.aload_n 0, 1) := by decide +kernel
theorem dX1_valueBy_6 : decode cX1_valueBy 6 = .ok (.getfield 19, 3) := by decide +kernel
theorem dX1_valueBy_9 : decode cX1_valueBy 9 = .ok (.arraylength, 1) := by decide +kernel
theorem dX1_valueBy_10 : decode cX1_valueBy 10 = .ok (.if_icmp .ge 151, 3) := by decide +kernel
theorem dX1_valueBy_13 : decode cX1_valueBy 13 = .ok (.aload_n 0, 1) := by decide +kernel
theorem dX1_valueBy_14 : decode cX1_valueBy 14 = .ok (.getfield 19, 3) := by decide +kernel
theorem dX1_valueBy_17 : decode cX1_valueBy 17 = .ok (.iload_n 3, 1) := by decide +kernel
theorem dX1_valueBy_18 : decode cX1_valueBy 18 = .ok (.iaload, 1) := by decide +kernel
theorem dX1_valueBy_19 : decode cX1_valueBy 19 = .ok (.bipush 16, 2) := by decide +kernel
theorem dX1_valueBy_21 : decode cX1_valueBy 21 = .ok (.irem, 1) := by decide +kernel
theorem dX1_valueBy_22 : decode cX1_valueBy 22 = .ok (.istore 4, 2) := by decide +kernel
theorem dX1_valueBy_24 : decode cX1_valueBy 24 = .ok (.aload_n 0, 1) := by decide +kernel
theorem dX1_valueBy_25 : decode cX1_valueBy 25 = .ok (.getfield 19, 3) := by decide +kernel
theorem dX1_valueBy_28 : decode cX1_valueBy 28 = .ok (.iload_n 3, 1) := by decide +kernel
theorem dX1_valueBy_29 : decode cX1_valueBy 29 = .ok (.iaload, 1) := by decide +kernel
theorem dX1_valueBy_30 : decode cX1_valueBy 30 = .ok (.bipush 16, 2) := by decide +kernel
theorem dX1_valueBy_32 : decode cX1_valueBy 32 = .ok (.idiv, 1) := by decide +kernel
theorem dX1_valueBy_33 : decode cX1_valueBy 33 = .ok (.istore 5, 2) := by decide +kernel
theorem dX1_valueBy_35 : decode cX1_valueBy 35 = .ok (.iload 4, 2) := by decide +kernel
theorem dX1_valueBy_37 : decode cX1_valueBy 37 = .ok (.ifCond .eq 9, 3) := by decide +kernel
theorem dX1_valueBy_40 : decode cX1_valueBy 40 = .ok (.iload 4, 2) := by decide +kernel
theorem dX1_valueBy_42 : decode cX1_valueBy 42 = .ok (.iconst 1, 1) := by decide +kernel
theorem dX1_valueBy_43 : decode cX1_valueBy 43 = .ok (.if_icmp .ne 37, 3) := by decide +kernel
theorem dX1_valueBy_46 : decode cX1_valueBy 46 = .ok (.iload_n 2, 1) := by decide +kernel
theorem dX1_valueBy_47 : decode cX1_valueBy 47 = .ok (.bipush 32, 2) := by decide +kernel
theorem dX1_valueBy_49 : decode cX1_valueBy 49 = .ok (.if_icmp .ge 106, 3) := by decide +kernel
theorem dX1_valueBy_52 : decode cX1_valueBy 52 = .ok (.aload_n 0, 1) := by decide +kernel
theorem dX1_valueBy_53 : decode cX1_valueBy 53 = .ok (.getfield 9, 3) := by decide +kernel
theorem dX1_valueBy_56 : decode cX1_valueBy 56 = .ok (.iload_n 2, 1) := by decide +kernel
theorem dX1_valueBy_57 : decode cX1_valueBy 57 = .ok (.iload 4, 2) := by decide +kernel
theorem dX1_valueBy_59 : decode cX1_valueBy 59 = .ok (.ifCond .ne 8, 3) := by decide +kernel
theorem dX1_valueBy_62 : decode cX1_valueBy 62 = .ok (.iload 5, 2) := by decide +kernel
theorem dX1_valueBy_64 : decode cX1_valueBy 64 = .ok (.goto 9, 3) := by decide +kernel
theorem dX1_valueBy_67 : decode cX1_valueBy 67 = .ok (.aload_n 1, 1) := by decide +kernel
theorem dX1_valueBy_68 : decode cX1_valueBy 68 = .ok (.iload 5, 2) := by decide +kernel
theorem dX1_valueBy_70 : decode cX1_valueBy 70 = .ok (.invokestatic 22, 3) := by decide +kernel
theorem dX1_valueBy_73 : decode cX1_valueBy 73 = .ok (.iastore, 1) := by decide +kernel
theorem dX1_valueBy_74 : decode cX1_valueBy 74 = .ok (.iinc 2 1, 3) := by decide +kernel
theorem dX1_valueBy_77 : decode cX1_valueBy 77 = .ok (.goto 78, 3) := by decide +kernel
theorem dX1_valueBy_80 : decode cX1_valueBy 80 = .ok (.iload 4, 2) := by decide +kernel
theorem dX1_valueBy_82 : decode cX1_valueBy 82 = .ok (.iconst 2, 1) := by decide +kernel
theorem dX1_valueBy_83 : decode cX1_valueBy 83 = .ok (.if_icmp .ne 37, 3) := by decide +kernel
theorem dX1_valueBy_86 : decode cX1_valueBy 86 = .ok (.iload_n 2, 1) := by decide +kernel
theorem dX1_valueBy_87 : decode cX1_valueBy 87 = .ok (.ifCond .le 68, 3) := by decide +kernel
theorem dX1_valueBy_90 : decode cX1_valueBy 90 = .ok (.aload_n 0, 1) := by decide +kernel
theorem dX1_valueBy_91 : decode cX1_valueBy 91 = .ok (.getfield 9, 3) := by decide +kernel
theorem dX1_valueBy_94 : decode cX1_valueBy 94 = .ok (.iload_n 2, 1) := by decide +kernel
theorem dX1_valueBy_95 : decode cX1_valueBy 95 = .ok (.iconst 1, 1) := by decide +kernel
theorem dX1_valueBy_96 : decode cX1_valueBy 96 = .ok (.isub, 1) := by decide +kernel
theorem dX1_valueBy_97 : decode cX1_valueBy 97 = .ok (.aload_n 0, 1) := by decide +kernel
theorem dX1_valueBy_98 : decode cX1_valueBy 98 = .ok (.getfield 9, 3) := by decide +kernel
theorem dX1_valueBy_101 : decode cX1_valueBy 101 = .ok (.iload_n 2, 1) := by decide +kernel
theorem dX1_valueBy_102 : decode cX1_valueBy 102 = .ok (.iconst 1, 1) := by decide +kernel
theorem dX1_valueBy_103 : decode cX1_valueBy 103 = .ok (.isub, 1) := by decide +kernel
theorem dX1_valueBy_104 : decode cX1_valueBy 104 = .ok (.iaload, 1) := by decide +kernel
theorem dX1_valueBy_105 : decode cX1_valueBy 105 = .ok (.ifCond .ne 7, 3) := by decide +kernel
theorem dX1_valueBy_108 : decode cX1_valueBy 108 = .ok (.iconst 1, 1) := by decide +kernel
theorem dX1_valueBy_109 : decode cX1_valueBy 109 = .ok (.goto 4, 3) := by decide +kernel
theorem dX1_valueBy_112 : decode cX1_valueBy 112 = .ok (.iconst 0, 1) := by decide +kernel
theorem dX1_valueBy_113 : decode cX1_valueBy 113 = .ok (.invokestatic 26, 3) := by decide +kernel
theorem dX1_valueBy_116 : decode cX1_valueBy 116 = .ok (.iastore, 1) := by decide +kernel
theorem dX1_valueBy_117 : decode cX1_valueBy 117 = .ok (.goto 38, 3) := by decide +kernel
theorem dX1_valueBy_120 : decode cX1_valueBy 120 = .ok (.iload_n 2, 1) := by decide +kernel
theorem dX1_valueBy_121 : decode cX1_valueBy 121 = .ok (.iconst 1, 1) := by decide +kernel
theorem dX1_valueBy_122 : decode cX1_valueBy 122 = .ok (.if_icmp .le 33, 3) := by decide +kernel
theorem dX1_valueBy_125 : decode cX1_valueBy 125 = .ok (.iinc 2 (-1), 3) := by decide +kernel
theorem dX1_valueBy_128 : decode cX1_valueBy 128 = .ok (.aload_n 0, 1) := by decide +kernel
theorem dX1_valueBy_129 : decode cX1_valueBy 129 = .ok (.getfield 9, 3) := by decide +kernel
theorem dX1_valueBy_132 : decode cX1_valueBy 132 = .ok (.iload_n 2, 1) := by decide +kernel
theorem dX1_valueBy_133 : decode cX1_valueBy 133 = .ok (.iconst 1, 1) := by decide +kernel
theorem dX1_valueBy_134 : decode cX1_valueBy 134 = .ok (.isub, 1) := by decide +kernel
theorem dX1_valueBy_135 : decode cX1_valueBy 135 = .ok (.iload 4, 2) := by decide +kernel
theorem dX1_valueBy_137 : decode cX1_valueBy 137 = .ok (.aload_n 0, 1) := by decide +kernel
theorem dX1_valueBy_138 : decode cX1_valueBy 138 = .ok (.getfield 9, 3) := by decide +kernel
theorem dX1_valueBy_141 : decode cX1_valueBy 141 = .ok (.iload_n 2, 1) := by decide +kernel
theorem dX1_valueBy_142 : decode cX1_valueBy 142 = .ok (.iconst 1, 1) := by decide +kernel
theorem dX1_valueBy_143 : decode cX1_valueBy 143 = .ok (.isub, 1) := by decide +kernel
theorem dX1_valueBy_144 : decode cX1_valueBy 144 = .ok (.iaload, 1) := by decide +kernel
theorem dX1_valueBy_145 : decode cX1_valueBy 145 = .ok (.aload_n 0, 1) := by decide +kernel
theorem dX1_valueBy_146 : decode cX1_valueBy 146 = .ok (.getfield 9, 3) := by decide +kernel
theorem dX1_valueBy_149 : decode cX1_valueBy 149 = .ok (.iload_n 2, 1) := by decide +kernel
theorem dX1_valueBy_150 : decode cX1_valueBy 150 = .ok (.iaload, 1) := by decide +kernel
theorem dX1_valueBy_151 : decode cX1_valueBy 151 = .ok (.invokestatic 30, 3) := by decide +kernel
theorem dX1_valueBy_154 : decode cX1_valueBy 154 = .ok (.iastore, 1) := by decide +kernel
theorem dX1_valueBy_155 : decode cX1_valueBy 155 = .ok (.iinc 3 1, 3) := by decide +kernel
theorem dX1_valueBy_158 : decode cX1_valueBy 158 = .ok (.goto (-154), 3) := by decide +kernel
theorem dX1_valueBy_161 : decode cX1_valueBy 161 = .ok (.aload_n 0, 1) := by decide +kernel
theorem dX1_valueBy_162 : decode cX1_valueBy 162 = .ok (.getfield 9, 3) := by decide +kernel
theorem dX1_valueBy_165 : decode cX1_valueBy 165 = .ok (.iconst 0, 1) := by decide +kernel
theorem dX1_valueBy_166 : decode cX1_valueBy 166 = .ok (.iaload, 1) := by decide +kernel
theorem dX1_valueBy_167 : decode cX1_valueBy 167 = .ok (.ireturn, 1) := by decide +kernel
theorem dX1_factOf_0 : decode cX1_factOf 0 = .ok (.iload_n 1, 1) := by decide +kernel
theorem dX1_factOf_1 : decode cX1_factOf 1 = .ok (.aload_n 0, 1) := by decide +kernel
theorem dX1_factOf_2 : decode cX1_factOf 2 = .ok (.arraylength, 1) := by decide +kernel
theorem dX1_factOf_3 : decode cX1_factOf 3 = .ok (.invokestatic 34, 3) := by decide +kernel
theorem dX1_factOf_6 : decode cX1_factOf 6 = .ok (.ifCond .eq 9, 3) := by decide +kernel
theorem dX1_factOf_9 : decode cX1_factOf 9 = .ok (.aload_n 0, 1) := by decide +kernel
theorem dX1_factOf_10 : decode cX1_factOf 10 = .ok (.iload_n 1, 1) := by decide +kernel
theorem dX1_factOf_11 : decode cX1_factOf 11 = .ok (.iaload, 1) := by decide +kernel
theorem dX1_factOf_12 : decode cX1_factOf 12 = .ok (.goto 4, 3) := by decide +kernel
theorem dX1_factOf_15 : decode cX1_factOf 15 = .ok (.iconst 0, 1) := by decide +kernel
theorem dX1_factOf_16 : decode cX1_factOf 16 = .ok (.ireturn, 1) := by decide +kernel
theorem dX1_joined_0 : decode cX1_joined 0 = .ok (.iload_n 0, 1) := by decide +kernel
theorem dX1_joined_1 : decode cX1_joined 1 = .ok (.tableswitch 109 3 8 #[39, 56, 73, 87, 101, 105], 39) := by decide +kernel
theorem dX1_joined_40 : decode cX1_joined 40 = .ok (.iload_n 1, 1) := by decide +kernel
theorem dX1_joined_41 : decode cX1_joined 41 = .ok (.ifCond .eq 11, 3) := by decide +kernel
theorem dX1_joined_44 : decode cX1_joined 44 = .ok (.iload_n 2, 1) := by decide +kernel
theorem dX1_joined_45 : decode cX1_joined 45 = .ok (.ifCond .eq 7, 3) := by decide +kernel
theorem dX1_joined_48 : decode cX1_joined 48 = .ok (.iconst 1, 1) := by decide +kernel
theorem dX1_joined_49 : decode cX1_joined 49 = .ok (.goto 4, 3) := by decide +kernel
theorem dX1_joined_52 : decode cX1_joined 52 = .ok (.iconst 0, 1) := by decide +kernel
theorem dX1_joined_53 : decode cX1_joined 53 = .ok (.invokestatic 26, 3) := by decide +kernel
theorem dX1_joined_56 : decode cX1_joined 56 = .ok (.ireturn, 1) := by decide +kernel
theorem dX1_joined_57 : decode cX1_joined 57 = .ok (.iload_n 1, 1) := by decide +kernel
theorem dX1_joined_58 : decode cX1_joined 58 = .ok (.ifCond .ne 7, 3) := by decide +kernel
theorem dX1_joined_61 : decode cX1_joined 61 = .ok (.iload_n 2, 1) := by decide +kernel
theorem dX1_joined_62 : decode cX1_joined 62 = .ok (.ifCond .eq 7, 3) := by decide +kernel
theorem dX1_joined_65 : decode cX1_joined 65 = .ok (.iconst 1, 1) := by decide +kernel
theorem dX1_joined_66 : decode cX1_joined 66 = .ok (.goto 4, 3) := by decide +kernel
theorem dX1_joined_69 : decode cX1_joined 69 = .ok (.iconst 0, 1) := by decide +kernel
theorem dX1_joined_70 : decode cX1_joined 70 = .ok (.invokestatic 26, 3) := by decide +kernel
theorem dX1_joined_73 : decode cX1_joined 73 = .ok (.ireturn, 1) := by decide +kernel
theorem dX1_joined_74 : decode cX1_joined 74 = .ok (.iload_n 1, 1) := by decide +kernel
theorem dX1_joined_75 : decode cX1_joined 75 = .ok (.iload_n 2, 1) := by decide +kernel
theorem dX1_joined_76 : decode cX1_joined 76 = .ok (.if_icmp .ge 7, 3) := by decide +kernel
theorem dX1_joined_79 : decode cX1_joined 79 = .ok (.iconst 1, 1) := by decide +kernel
theorem dX1_joined_80 : decode cX1_joined 80 = .ok (.goto 4, 3) := by decide +kernel
theorem dX1_joined_83 : decode cX1_joined 83 = .ok (.iconst 0, 1) := by decide +kernel
theorem dX1_joined_84 : decode cX1_joined 84 = .ok (.invokestatic 26, 3) := by decide +kernel
theorem dX1_joined_87 : decode cX1_joined 87 = .ok (.ireturn, 1) := by decide +kernel
theorem dX1_joined_88 : decode cX1_joined 88 = .ok (.iload_n 1, 1) := by decide +kernel
theorem dX1_joined_89 : decode cX1_joined 89 = .ok (.iload_n 2, 1) := by decide +kernel
theorem dX1_joined_90 : decode cX1_joined 90 = .ok (.if_icmp .ne 7, 3) := by decide +kernel
theorem dX1_joined_93 : decode cX1_joined 93 = .ok (.iconst 1, 1) := by decide +kernel
theorem dX1_joined_94 : decode cX1_joined 94 = .ok (.goto 4, 3) := by decide +kernel
theorem dX1_joined_97 : decode cX1_joined 97 = .ok (.iconst 0, 1) := by decide +kernel
theorem dX1_joined_98 : decode cX1_joined 98 = .ok (.invokestatic 26, 3) := by decide +kernel
theorem dX1_joined_101 : decode cX1_joined 101 = .ok (.ireturn, 1) := by decide +kernel
theorem dX1_joined_102 : decode cX1_joined 102 = .ok (.iload_n 1, 1) := by decide +kernel
theorem dX1_joined_103 : decode cX1_joined 103 = .ok (.iload_n 2, 1) := by decide +kernel
theorem dX1_joined_104 : decode cX1_joined 104 = .ok (.iadd, 1) := by decide +kernel
theorem dX1_joined_105 : decode cX1_joined 105 = .ok (.ireturn, 1) := by decide +kernel
theorem dX1_joined_106 : decode cX1_joined 106 = .ok (.iload_n 1, 1) := by decide +kernel
theorem dX1_joined_107 : decode cX1_joined 107 = .ok (.iload_n 2, 1) := by decide +kernel
theorem dX1_joined_108 : decode cX1_joined 108 = .ok (.isub, 1) := by decide +kernel
theorem dX1_joined_109 : decode cX1_joined 109 = .ok (.ireturn, 1) := by decide +kernel
theorem dX1_joined_110 : decode cX1_joined 110 = .ok (.iload_n 1, 1) := by decide +kernel
theorem dX1_joined_111 : decode cX1_joined 111 = .ok (.iload_n 2, 1) := by decide +kernel
theorem dX1_joined_112 : decode cX1_joined 112 = .ok (.imul, 1) := by decide +kernel
theorem dX1_joined_113 : decode cX1_joined 113 = .ok (.ireturn, 1) := by decide +kernel
theorem dX1_bit_0 : decode cX1_bit 0 = .ok (.iload_n 0, 1) := by decide +kernel
theorem dX1_bit_1 : decode cX1_bit 1 = .ok (.ifCond .eq 7, 3) := by decide +kernel
theorem dX1_bit_4 : decode cX1_bit 4 = .ok (.iconst 1, 1) := by decide +kernel
theorem dX1_bit_5 : decode cX1_bit 5 = .ok (.goto 4, 3) := by decide +kernel
theorem dX1_bit_8 : decode cX1_bit 8 = .ok (.iconst 0, 1) := by decide +kernel
theorem dX1_bit_9 : decode cX1_bit 9 = .ok (.ireturn, 1) := by decide +kernel
theorem dX2_init_0 : decode cX2_init 0 = .ok (.aload_n 0, 1) := by decide +kernel
theorem dX2_init_1 : decode cX2_init 1 = .ok (.invokespecial 3, 3) := by decide +kernel
theorem dX2_init_4 : decode cX2_init 4 = .ok (.aload_n 0, 1) := by decide +kernel
theorem dX2_init_5 : decode cX2_init 5 = .ok (.bipush 8, 2) := by decide +kernel
theorem dX2_init_7 : decode cX2_init 7 = .ok (.newarray .int, 2) := by decide +kernel
theorem dX2_init_9 : decode cX2_init 9 = .ok (.putfield 9, 3) := by decide +kernel
theorem dX2_init_12 : decode cX2_init 12 = .ok (.aload_n 0, 1) := by decide +kernel
theorem dX2_init_13 : decode cX2_init 13 = .ok (.bipush 8, 2) := by decide +kernel
theorem dX2_init_15 : decode cX2_init 15 = .ok (.newarray .int, 2) := by decide +kernel
theorem dX2_init_17 : decode cX2_init 17 = .ok (.putfield 15, 3) := by decide +kernel
theorem dX2_init_20 : decode cX2_init 20 = .ok (.aload_n 0, 1) := by decide +kernel
theorem dX2_init_21 : decode cX2_init 21 = .ok (.bipush 10, 2) := by decide +kernel
theorem dX2_init_23 : decode cX2_init 23 = .ok (.newarray .int, 2) := by decide +kernel
theorem dX2_init_25 : decode cX2_init 25 = .ok (.putfield 18, 3) := by decide +kernel
theorem dX2_init_28 : decode cX2_init 28 = .ok (.aload_n 0, 1) := by decide +kernel
theorem dX2_init_29 : decode cX2_init 29 = .ok (.bipush 10, 2) := by decide +kernel
theorem dX2_init_31 : decode cX2_init 31 = .ok (.newarray .int, 2) := by decide +kernel
theorem dX2_init_33 : decode cX2_init 33 = .ok (.putfield 21, 3) := by decide +kernel
theorem dX2_init_36 : decode cX2_init 36 = .ok (.aload_n 0, 1) := by decide +kernel
theorem dX2_init_37 : decode cX2_init 37 = .ok (.bipush 10, 2) := by decide +kernel
theorem dX2_init_39 : decode cX2_init 39 = .ok (.newarray .int, 2) := by decide +kernel
theorem dX2_init_41 : decode cX2_init 41 = .ok (.putfield 24, 3) := by decide +kernel
theorem dX2_init_44 : decode cX2_init 44 = .ok (.aload_n 0, 1) := by decide +kernel
theorem dX2_init_45 : decode cX2_init 45 = .ok (.bipush 6, 2) := by decide +kernel
theorem dX2_init_47 : decode cX2_init 47 = .ok (.newarray .int, 2) := by decide +kernel
theorem dX2_init_49 : decode cX2_init 49 = .ok (.putfield 27, 3) := by decide +kernel
theorem dX2_init_52 : decode cX2_init 52 = .ok (.aload_n 0, 1) := by decide +kernel
theorem dX2_init_53 : decode cX2_init 53 = .ok (.bipush 6, 2) := by decide +kernel
theorem dX2_init_55 : decode cX2_init 55 = .ok (.newarray .int, 2) := by decide +kernel
theorem dX2_init_57 : decode cX2_init 57 = .ok (.putfield 30, 3) := by decide +kernel
theorem dX2_init_60 : decode cX2_init 60 = .ok (.aload_n 0, 1) := by decide +kernel
theorem dX2_init_61 : decode cX2_init 61 = .ok (.bipush 6, 2) := by decide +kernel
theorem dX2_init_63 : decode cX2_init 63 = .ok (.newarray .int, 2) := by decide +kernel
theorem dX2_init_65 : decode cX2_init 65 = .ok (.putfield 33, 3) := by decide +kernel
theorem dX2_init_68 : decode cX2_init 68 = .ok (.aload_n 0, 1) := by decide +kernel
theorem dX2_init_69 : decode cX2_init 69 = .ok (.bipush 16, 2) := by decide +kernel
theorem dX2_init_71 : decode cX2_init 71 = .ok (.newarray .int, 2) := by decide +kernel
theorem dX2_init_73 : decode cX2_init 73 = .ok (.putfield 36, 3) := by decide +kernel
theorem dX2_init_76 : decode cX2_init 76 = .ok (.aload_n 0, 1) := by decide +kernel
theorem dX2_init_77 : decode cX2_init 77 = .ok (.iconst 2, 1) := by decide +kernel
theorem dX2_init_78 : decode cX2_init 78 = .ok (.newarray .int, 2) := by decide +kernel
theorem dX2_init_80 : decode cX2_init 80 = .ok (.putfield 39, 3) := by decide +kernel
theorem dX2_init_83 : decode cX2_init 83 = .ok (.return_, 1) := by decide +kernel
theorem dX2_across_0 : decode cX2_across 0 = .ok (.aload_n 0, 1) := by decide +kernel
theorem dX2_across_1 : decode cX2_across 1 = .ok (.getfield 18, 3) := by decide +kernel
theorem dX2_across_4 : decode cX2_across 4 = .ok (.iload_n 1, 1) := by decide +kernel
theorem dX2_across_5 : decode cX2_across 5 = .ok (.iaload, 1) := by decide +kernel
theorem dX2_across_6 : decode cX2_across 6 = .ok (.iload_n 2, 1) := by decide +kernel
theorem dX2_across_7 : decode cX2_across 7 = .ok (.if_icmp .ne 10, 3) := by decide +kernel
theorem dX2_across_10 : decode cX2_across 10 = .ok (.aload_n 0, 1) := by decide +kernel
theorem dX2_across_11 : decode cX2_across 11 = .ok (.getfield 21, 3) := by decide +kernel
theorem dX2_across_14 : decode cX2_across 14 = .ok (.iload_n 1, 1) := by decide +kernel
theorem dX2_across_15 : decode cX2_across 15 = .ok (.iaload, 1) := by decide +kernel
theorem dX2_across_16 : decode cX2_across 16 = .ok (.ireturn, 1) := by decide +kernel
theorem dX2_across_17 : decode cX2_across 17 = .ok (.aload_n 0, 1) := by decide +kernel
theorem dX2_across_18 : decode cX2_across 18 = .ok (.getfield 21, 3) := by decide +kernel
theorem dX2_across_21 : decode cX2_across 21 = .ok (.iload_n 1, 1) := by decide +kernel
theorem dX2_across_22 : decode cX2_across 22 = .ok (.iaload, 1) := by decide +kernel
theorem dX2_across_23 : decode cX2_across 23 = .ok (.iload_n 2, 1) := by decide +kernel
theorem dX2_across_24 : decode cX2_across 24 = .ok (.if_icmp .ne 12, 3) := by decide +kernel
theorem dX2_across_27 : decode cX2_across 27 = .ok (.aload_n 0, 1) := by decide +kernel
theorem dX2_across_28 : decode cX2_across 28 = .ok (.getfield 18, 3) := by decide +kernel
theorem dX2_across_31 : decode cX2_across 31 = .ok (.iload_n 1, 1) := by decide +kernel
theorem dX2_across_32 : decode cX2_across 32 = .ok (.iaload, 1) := by decide +kernel
theorem dX2_across_33 : decode cX2_across 33 = .ok (.goto 5, 3) := by decide +kernel
theorem dX2_across_36 : decode cX2_across 36 = .ok (.bipush (-2), 2) := by decide +kernel
theorem dX2_across_38 : decode cX2_across 38 = .ok (.ireturn, 1) := by decide +kernel
theorem dX2_farOf_0 : decode cX2_farOf 0 = .ok (.iload_n 1, 1) := by decide +kernel
theorem dX2_farOf_1 : decode cX2_farOf 1 = .ok (.iconst (-1), 1) := by decide +kernel
theorem dX2_farOf_2 : decode cX2_farOf 2 = .ok (.if_icmp .ne 7, 3) := by decide +kernel
theorem dX2_farOf_5 : decode cX2_farOf 5 = .ok (.iconst 0, 1) := by decide +kernel
theorem dX2_farOf_6 : decode cX2_farOf 6 = .ok (.goto 9, 3) := by decide +kernel
theorem dX2_farOf_9 : decode cX2_farOf 9 = .ok (.aload_n 0, 1) := by decide +kernel
theorem dX2_farOf_10 : decode cX2_farOf 10 = .ok (.getfield 15, 3) := by decide +kernel
theorem dX2_farOf_13 : decode cX2_farOf 13 = .ok (.iload_n 1, 1) := by decide +kernel
theorem dX2_farOf_14 : decode cX2_farOf 14 = .ok (.iaload, 1) := by decide +kernel
theorem dX2_farOf_15 : decode cX2_farOf 15 = .ok (.ireturn, 1) := by decide +kernel
theorem dX2_guardCell_0 : decode cX2_guardCell 0 = .ok (.aload_n 0, 1) := by decide +kernel
theorem dX2_guardCell_1 : decode cX2_guardCell 1 = .ok (.getfield 39, 3) := by decide +kernel
theorem dX2_guardCell_4 : decode cX2_guardCell 4 = .ok (.iload_n 1, 1) := by decide +kernel
theorem dX2_guardCell_5 : decode cX2_guardCell 5 = .ok (.iaload, 1) := by decide +kernel
theorem dX2_guardCell_6 : decode cX2_guardCell 6 = .ok (.istore_n 3, 1) := by decide +kernel
theorem dX2_guardCell_7 : decode cX2_guardCell 7 = .ok (.iload_n 3, 1) := by decide +kernel
theorem dX2_guardCell_8 : decode cX2_guardCell 8 = .ok (.ifCond .le 21, 3) := by decide +kernel
theorem dX2_guardCell_11 : decode cX2_guardCell 11 = .ok (.aload_n 0, 1) := by decide +kernel
theorem dX2_guardCell_12 : decode cX2_guardCell 12 = .ok (.getfield 36, 3) := by decide +kernel
theorem dX2_guardCell_15 : decode cX2_guardCell 15 = .ok (.iload_n 1, 1) := by decide +kernel
theorem dX2_guardCell_16 : decode cX2_guardCell 16 = .ok (.bipush 8, 2) := by decide +kernel
theorem dX2_guardCell_18 : decode cX2_guardCell 18 = .ok (.imul, 1) := by decide +kernel
theorem dX2_guardCell_19 : decode cX2_guardCell 19 = .ok (.iload_n 2, 1) := by decide +kernel
theorem dX2_guardCell_20 : decode cX2_guardCell 20 = .ok (.iload_n 3, 1) := by decide +kernel
theorem dX2_guardCell_21 : decode cX2_guardCell 21 = .ok (.invokestatic 42, 3) := by decide +kernel
theorem dX2_guardCell_24 : decode cX2_guardCell 24 = .ok (.iadd, 1) := by decide +kernel
theorem dX2_guardCell_25 : decode cX2_guardCell 25 = .ok (.iaload, 1) := by decide +kernel
theorem dX2_guardCell_26 : decode cX2_guardCell 26 = .ok (.goto 5, 3) := by decide +kernel
theorem dX2_guardCell_29 : decode cX2_guardCell 29 = .ok (.bipush (-2), 2) := by decide +kernel
theorem dX2_guardCell_31 : decode cX2_guardCell 31 = .ok (.ireturn, 1) := by decide +kernel
theorem dX2_measureFar_0 : decode cX2_measureFar 0 = .ok (.aload_n 0, 1) := by decide +kernel
theorem dX2_measureFar_1 : decode cX2_measureFar 1 = .ok (.getfield 15, 3) := by decide +kernel
theorem dX2_measureFar_4 : decode cX2_measureFar 4 = .ok (.iconst (-1), 1) := by decide +kernel
theorem dX2_measureFar_5 : decode cX2_measureFar 5 = .ok (.invokestatic 48, 3) := by decide +kernel
theorem dX2_measureFar_8 : decode cX2_measureFar 8 = .ok (.iconst 0, 1) := by decide +kernel
theorem dX2_measureFar_9 : decode cX2_measureFar 9 = .ok (.istore_n 1, 1) := by decide +kernel
theorem dX2_measureFar_10 : decode cX2_measureFar 10 = .ok (.iload_n 1, 1) := by decide +kernel
theorem dX2_measureFar_11 : decode cX2_measureFar 11 = .ok (.aload_n 0, 1) := by decide +kernel
theorem dX2_measureFar_12 : decode cX2_measureFar 12 = .ok (.getfield 54, 3) := by decide +kernel
theorem dX2_measureFar_15 : decode cX2_measureFar 15 = .ok (.if_icmp .ge 57, 3) := by decide +kernel
theorem dX2_measureFar_18 : decode cX2_measureFar 18 = .ok (.iconst 0, 1) := by decide +kernel
theorem dX2_measureFar_19 : decode cX2_measureFar 19 = .ok (.istore_n 2, 1) := by decide +kernel
theorem dX2_measureFar_20 : decode cX2_measureFar 20 = .ok (.iload_n 2, 1) := by decide +kernel
theorem dX2_measureFar_21 : decode cX2_measureFar 21 = .ok (.aload_n 0, 1) := by decide +kernel
theorem dX2_measureFar_22 : decode cX2_measureFar 22 = .ok (.getfield 58, 3) := by decide +kernel
theorem dX2_measureFar_25 : decode cX2_measureFar 25 = .ok (.if_icmp .ge 41, 3) := by decide +kernel
theorem dX2_measureFar_28 : decode cX2_measureFar 28 = .ok (.aload_n 0, 1) := by decide +kernel
theorem dX2_measureFar_29 : decode cX2_measureFar 29 = .ok (.aload_n 0, 1) := by decide +kernel
theorem dX2_measureFar_30 : decode cX2_measureFar 30 = .ok (.getfield 18, 3) := by decide +kernel
theorem dX2_measureFar_33 : decode cX2_measureFar 33 = .ok (.iload_n 2, 1) := by decide +kernel
theorem dX2_measureFar_34 : decode cX2_measureFar 34 = .ok (.iaload, 1) := by decide +kernel
theorem dX2_measureFar_35 : decode cX2_measureFar 35 = .ok (.aload_n 0, 1) := by decide +kernel
theorem dX2_measureFar_36 : decode cX2_measureFar 36 = .ok (.getfield 21, 3) := by decide +kernel
theorem dX2_measureFar_39 : decode cX2_measureFar 39 = .ok (.iload_n 2, 1) := by decide +kernel
theorem dX2_measureFar_40 : decode cX2_measureFar 40 = .ok (.iaload, 1) := by decide +kernel
theorem dX2_measureFar_41 : decode cX2_measureFar 41 = .ok (.invokevirtual 61, 3) := by decide +kernel
theorem dX2_measureFar_44 : decode cX2_measureFar 44 = .ok (.aload_n 0, 1) := by decide +kernel
theorem dX2_measureFar_45 : decode cX2_measureFar 45 = .ok (.aload_n 0, 1) := by decide +kernel
theorem dX2_measureFar_46 : decode cX2_measureFar 46 = .ok (.getfield 21, 3) := by decide +kernel
theorem dX2_measureFar_49 : decode cX2_measureFar 49 = .ok (.iload_n 2, 1) := by decide +kernel
theorem dX2_measureFar_50 : decode cX2_measureFar 50 = .ok (.iaload, 1) := by decide +kernel
theorem dX2_measureFar_51 : decode cX2_measureFar 51 = .ok (.aload_n 0, 1) := by decide +kernel
theorem dX2_measureFar_52 : decode cX2_measureFar 52 = .ok (.getfield 18, 3) := by decide +kernel
theorem dX2_measureFar_55 : decode cX2_measureFar 55 = .ok (.iload_n 2, 1) := by decide +kernel
theorem dX2_measureFar_56 : decode cX2_measureFar 56 = .ok (.iaload, 1) := by decide +kernel
theorem dX2_measureFar_57 : decode cX2_measureFar 57 = .ok (.invokevirtual 61, 3) := by decide +kernel
theorem dX2_measureFar_60 : decode cX2_measureFar 60 = .ok (.iinc 2 1, 3) := by decide +kernel
theorem dX2_measureFar_63 : decode cX2_measureFar 63 = .ok (.goto (-43), 3) := by decide +kernel
theorem dX2_measureFar_66 : decode cX2_measureFar 66 = .ok (.iinc 1 1, 3) := by decide +kernel
theorem dX2_measureFar_69 : decode cX2_measureFar 69 = .ok (.goto (-59), 3) := by decide +kernel
theorem dX2_measureFar_72 : decode cX2_measureFar 72 = .ok (.return_, 1) := by decide +kernel
theorem dX2_measureDoor_0 : decode cX2_measureDoor 0 = .ok (.iload_n 1, 1) := by decide +kernel
theorem dX2_measureDoor_1 : decode cX2_measureDoor 1 = .ok (.iconst (-1), 1) := by decide +kernel
theorem dX2_measureDoor_2 : decode cX2_measureDoor 2 = .ok (.if_icmp .eq 12, 3) := by decide +kernel
theorem dX2_measureDoor_5 : decode cX2_measureDoor 5 = .ok (.aload_n 0, 1) := by decide +kernel
theorem dX2_measureDoor_6 : decode cX2_measureDoor 6 = .ok (.iload_n 2, 1) := by decide +kernel
theorem dX2_measureDoor_7 : decode cX2_measureDoor 7 = .ok (.invokevirtual 65, 3) := by decide +kernel
theorem dX2_measureDoor_10 : decode cX2_measureDoor 10 = .ok (.iconst (-1), 1) := by decide +kernel
theorem dX2_measureDoor_11 : decode cX2_measureDoor 11 = .ok (.if_icmp .ne 4, 3) := by decide +kernel
theorem dX2_measureDoor_14 : decode cX2_measureDoor 14 = .ok (.return_, 1) := by decide +kernel
theorem dX2_measureDoor_15 : decode cX2_measureDoor 15 = .ok (.aload_n 0, 1) := by decide +kernel
theorem dX2_measureDoor_16 : decode cX2_measureDoor 16 = .ok (.getfield 15, 3) := by decide +kernel
theorem dX2_measureDoor_19 : decode cX2_measureDoor 19 = .ok (.iload_n 1, 1) := by decide +kernel
theorem dX2_measureDoor_20 : decode cX2_measureDoor 20 = .ok (.iaload, 1) := by decide +kernel
theorem dX2_measureDoor_21 : decode cX2_measureDoor 21 = .ok (.iconst (-1), 1) := by decide +kernel
theorem dX2_measureDoor_22 : decode cX2_measureDoor 22 = .ok (.if_icmp .eq 19, 3) := by decide +kernel
theorem dX2_measureDoor_25 : decode cX2_measureDoor 25 = .ok (.aload_n 0, 1) := by decide +kernel
theorem dX2_measureDoor_26 : decode cX2_measureDoor 26 = .ok (.iload_n 2, 1) := by decide +kernel
theorem dX2_measureDoor_27 : decode cX2_measureDoor 27 = .ok (.invokevirtual 65, 3) := by decide +kernel
theorem dX2_measureDoor_30 : decode cX2_measureDoor 30 = .ok (.iconst 1, 1) := by decide +kernel
theorem dX2_measureDoor_31 : decode cX2_measureDoor 31 = .ok (.iadd, 1) := by decide +kernel
theorem dX2_measureDoor_32 : decode cX2_measureDoor 32 = .ok (.aload_n 0, 1) := by decide +kernel
theorem dX2_measureDoor_33 : decode cX2_measureDoor 33 = .ok (.getfield 15, 3) := by decide +kernel
theorem dX2_measureDoor_36 : decode cX2_measureDoor 36 = .ok (.iload_n 1, 1) := by decide +kernel
theorem dX2_measureDoor_37 : decode cX2_measureDoor 37 = .ok (.iaload, 1) := by decide +kernel
theorem dX2_measureDoor_38 : decode cX2_measureDoor 38 = .ok (.if_icmp .ge 16, 3) := by decide +kernel
theorem dX2_measureDoor_41 : decode cX2_measureDoor 41 = .ok (.aload_n 0, 1) := by decide +kernel
theorem dX2_measureDoor_42 : decode cX2_measureDoor 42 = .ok (.getfield 15, 3) := by decide +kernel
theorem dX2_measureDoor_45 : decode cX2_measureDoor 45 = .ok (.iload_n 1, 1) := by decide +kernel
theorem dX2_measureDoor_46 : decode cX2_measureDoor 46 = .ok (.aload_n 0, 1) := by decide +kernel
theorem dX2_measureDoor_47 : decode cX2_measureDoor 47 = .ok (.iload_n 2, 1) := by decide +kernel
theorem dX2_measureDoor_48 : decode cX2_measureDoor 48 = .ok (.invokevirtual 65, 3) := by decide +kernel
theorem dX2_measureDoor_51 : decode cX2_measureDoor 51 = .ok (.iconst 1, 1) := by decide +kernel
theorem dX2_measureDoor_52 : decode cX2_measureDoor 52 = .ok (.iadd, 1) := by decide +kernel
theorem dX2_measureDoor_53 : decode cX2_measureDoor 53 = .ok (.iastore, 1) := by decide +kernel
theorem dX2_measureDoor_54 : decode cX2_measureDoor 54 = .ok (.return_, 1) := by decide +kernel
theorem dX3_init_0 : decode cX3_init 0 = .ok (.aload_n 0, 1) := by decide +kernel
theorem dX3_init_1 : decode cX3_init 1 = .ok (.invokespecial 3, 3) := by decide +kernel
theorem dX3_init_4 : decode cX3_init 4 = .ok (.return_, 1) := by decide +kernel
theorem dX3_begin_0 : decode cX3_begin 0 = .ok (.aload_n 0, 1) := by decide +kernel
theorem dX3_begin_1 : decode cX3_begin 1 = .ok (.iload_n 1, 1) := by decide +kernel
theorem dX3_begin_2 : decode cX3_begin 2 = .ok (.putfield 9, 3) := by decide +kernel
theorem dX3_begin_5 : decode cX3_begin 5 = .ok (.aload_n 0, 1) := by decide +kernel
theorem dX3_begin_6 : decode cX3_begin 6 = .ok (.iconst 0, 1) := by decide +kernel
theorem dX3_begin_7 : decode cX3_begin 7 = .ok (.putfield 15, 3) := by decide +kernel
theorem dX3_begin_10 : decode cX3_begin 10 = .ok (.aload_n 0, 1) := by decide +kernel
theorem dX3_begin_11 : decode cX3_begin 11 = .ok (.iconst 0, 1) := by decide +kernel
theorem dX3_begin_12 : decode cX3_begin 12 = .ok (.putfield 18, 3) := by decide +kernel
theorem dX3_begin_15 : decode cX3_begin 15 = .ok (.aload_n 0, 1) := by decide +kernel
theorem dX3_begin_16 : decode cX3_begin 16 = .ok (.iload_n 1, 1) := by decide +kernel
theorem dX3_begin_17 : decode cX3_begin 17 = .ok (.putfield 21, 3) := by decide +kernel
theorem dX3_begin_20 : decode cX3_begin 20 = .ok (.aload_n 0, 1) := by decide +kernel
theorem dX3_begin_21 : decode cX3_begin 21 = .ok (.iconst (-1), 1) := by decide +kernel
theorem dX3_begin_22 : decode cX3_begin 22 = .ok (.putfield 24, 3) := by decide +kernel
theorem dX3_begin_25 : decode cX3_begin 25 = .ok (.return_, 1) := by decide +kernel
theorem dX3_copyFrom_0 : decode cX3_copyFrom 0 = .ok (.aload_n 0, 1) := by decide +kernel
theorem dX3_copyFrom_1 : decode cX3_copyFrom 1 = .ok (.aload_n 1, 1) := by decide +kernel
theorem dX3_copyFrom_2 : decode cX3_copyFrom 2 = .ok (.getfield 9, 3) := by decide +kernel
theorem dX3_copyFrom_5 : decode cX3_copyFrom 5 = .ok (.putfield 9, 3) := by decide +kernel
theorem dX3_copyFrom_8 : decode cX3_copyFrom 8 = .ok (.aload_n 0, 1) := by decide +kernel
theorem dX3_copyFrom_9 : decode cX3_copyFrom 9 = .ok (.aload_n 1, 1) := by decide +kernel
theorem dX3_copyFrom_10 : decode cX3_copyFrom 10 = .ok (.getfield 15, 3) := by decide +kernel
theorem dX3_copyFrom_13 : decode cX3_copyFrom 13 = .ok (.putfield 15, 3) := by decide +kernel
theorem dX3_copyFrom_16 : decode cX3_copyFrom 16 = .ok (.aload_n 0, 1) := by decide +kernel
theorem dX3_copyFrom_17 : decode cX3_copyFrom 17 = .ok (.aload_n 1, 1) := by decide +kernel
theorem dX3_copyFrom_18 : decode cX3_copyFrom 18 = .ok (.getfield 18, 3) := by decide +kernel
theorem dX3_copyFrom_21 : decode cX3_copyFrom 21 = .ok (.putfield 18, 3) := by decide +kernel
theorem dX3_copyFrom_24 : decode cX3_copyFrom 24 = .ok (.aload_n 0, 1) := by decide +kernel
theorem dX3_copyFrom_25 : decode cX3_copyFrom 25 = .ok (.aload_n 1, 1) := by decide +kernel
theorem dX3_copyFrom_26 : decode cX3_copyFrom 26 = .ok (.getfield 21, 3) := by decide +kernel
theorem dX3_copyFrom_29 : decode cX3_copyFrom 29 = .ok (.putfield 21, 3) := by decide +kernel
theorem dX3_copyFrom_32 : decode cX3_copyFrom 32 = .ok (.aload_n 0, 1) := by decide +kernel
theorem dX3_copyFrom_33 : decode cX3_copyFrom 33 = .ok (.aload_n 1, 1) := by decide +kernel
theorem dX3_copyFrom_34 : decode cX3_copyFrom 34 = .ok (.getfield 24, 3) := by decide +kernel
theorem dX3_copyFrom_37 : decode cX3_copyFrom 37 = .ok (.putfield 24, 3) := by decide +kernel
theorem dX3_copyFrom_40 : decode cX3_copyFrom 40 = .ok (.return_, 1) := by decide +kernel
theorem dX3_held_0 : decode cX3_held 0 = .ok (.aload_n 0, 1) := by decide +kernel
theorem dX3_held_1 : decode cX3_held 1 = .ok (.getfield 9, 3) := by decide +kernel
theorem dX3_held_4 : decode cX3_held 4 = .ok (.aload_n 0, 1) := by decide +kernel
theorem dX3_held_5 : decode cX3_held 5 = .ok (.getfield 15, 3) := by decide +kernel
theorem dX3_held_8 : decode cX3_held 8 = .ok (.iadd, 1) := by decide +kernel
theorem dX3_held_9 : decode cX3_held 9 = .ok (.ireturn, 1) := by decide +kernel
theorem dX3_isLoose_0 : decode cX3_isLoose 0 = .ok (.aload_n 0, 1) := by decide +kernel
theorem dX3_isLoose_1 : decode cX3_isLoose 1 = .ok (.getfield 9, 3) := by decide +kernel
theorem dX3_isLoose_4 : decode cX3_isLoose 4 = .ok (.ifCond .ne 7, 3) := by decide +kernel
theorem dX3_isLoose_7 : decode cX3_isLoose 7 = .ok (.iconst 1, 1) := by decide +kernel
theorem dX3_isLoose_8 : decode cX3_isLoose 8 = .ok (.goto 4, 3) := by decide +kernel
theorem dX3_isLoose_11 : decode cX3_isLoose 11 = .ok (.iconst 0, 1) := by decide +kernel
theorem dX3_isLoose_12 : decode cX3_isLoose 12 = .ok (.ireturn, 1) := by decide +kernel
theorem dX3_saltBehind_0 : decode cX3_saltBehind 0 = .ok (.iconst 0, 1) := by decide +kernel
theorem dX3_saltBehind_1 : decode cX3_saltBehind 1 = .ok (.aload_n 0, 1) := by decide +kernel
theorem dX3_saltBehind_2 : decode cX3_saltBehind 2 = .ok (.getfield 18, 3) := by decide +kernel
theorem dX3_saltBehind_5 : decode cX3_saltBehind 5 = .ok (.iload_n 1, 1) := by decide +kernel
theorem dX3_saltBehind_6 : decode cX3_saltBehind 6 = .ok (.isub, 1) := by decide +kernel
theorem dX3_saltBehind_7 : decode cX3_saltBehind 7 = .ok (.invokestatic 27, 3) := by decide +kernel
theorem dX3_saltBehind_10 : decode cX3_saltBehind 10 = .ok (.ireturn, 1) := by decide +kernel
theorem dX3_takeWater_0 : decode cX3_takeWater 0 = .ok (.iload_n 1, 1) := by decide +kernel
theorem dX3_takeWater_1 : decode cX3_takeWater 1 = .ok (.bipush 99, 2) := by decide +kernel
theorem dX3_takeWater_3 : decode cX3_takeWater 3 = .ok (.aload_n 0, 1) := by decide +kernel
theorem dX3_takeWater_4 : decode cX3_takeWater 4 = .ok (.invokevirtual 33, 3) := by decide +kernel
theorem dX3_takeWater_7 : decode cX3_takeWater 7 = .ok (.isub, 1) := by decide +kernel
theorem dX3_takeWater_8 : decode cX3_takeWater 8 = .ok (.invokestatic 37, 3) := by decide +kernel
theorem dX3_takeWater_11 : decode cX3_takeWater 11 = .ok (.istore_n 2, 1) := by decide +kernel
theorem dX3_takeWater_12 : decode cX3_takeWater 12 = .ok (.aload_n 0, 1) := by decide +kernel
theorem dX3_takeWater_13 : decode cX3_takeWater 13 = .ok (.dup, 1) := by decide +kernel
theorem dX3_takeWater_14 : decode cX3_takeWater 14 = .ok (.getfield 15, 3) := by decide +kernel
theorem dX3_takeWater_17 : decode cX3_takeWater 17 = .ok (.iload_n 2, 1) := by decide +kernel
theorem dX3_takeWater_18 : decode cX3_takeWater 18 = .ok (.iadd, 1) := by decide +kernel
theorem dX3_takeWater_19 : decode cX3_takeWater 19 = .ok (.putfield 15, 3) := by decide +kernel
theorem dX3_takeWater_22 : decode cX3_takeWater 22 = .ok (.iload_n 2, 1) := by decide +kernel
theorem dX3_takeWater_23 : decode cX3_takeWater 23 = .ok (.ireturn, 1) := by decide +kernel
theorem dX4_init_0 : decode cX4_init 0 = .ok (.aload_n 0, 1) := by decide +kernel
theorem dX4_init_1 : decode cX4_init 1 = .ok (.invokespecial 3, 3) := by decide +kernel
theorem dX4_init_4 : decode cX4_init 4 = .ok (.aload_n 0, 1) := by decide +kernel
theorem dX4_init_5 : decode cX4_init 5 = .ok (.bipush 8, 2) := by decide +kernel
theorem dX4_init_7 : decode cX4_init 7 = .ok (.newarray .int, 2) := by decide +kernel
theorem dX4_init_9 : decode cX4_init 9 = .ok (.putfield 9, 3) := by decide +kernel
theorem dX4_init_12 : decode cX4_init 12 = .ok (.aload_n 0, 1) := by decide +kernel
theorem dX4_init_13 : decode cX4_init 13 = .ok (.bipush 6, 2) := by decide +kernel
theorem dX4_init_15 : decode cX4_init 15 = .ok (.newarray .int, 2) := by decide +kernel
theorem dX4_init_17 : decode cX4_init 17 = .ok (.putfield 15, 3) := by decide +kernel
theorem dX4_init_20 : decode cX4_init 20 = .ok (.aload_n 0, 1) := by decide +kernel
theorem dX4_init_21 : decode cX4_init 21 = .ok (.bipush 6, 2) := by decide +kernel
theorem dX4_init_23 : decode cX4_init 23 = .ok (.newarray .int, 2) := by decide +kernel
theorem dX4_init_25 : decode cX4_init 25 = .ok (.putfield 18, 3) := by decide +kernel
theorem dX4_init_28 : decode cX4_init 28 = .ok (.aload_n 0, 1) := by decide +kernel
theorem dX4_init_29 : decode cX4_init 29 = .ok (.bipush 10, 2) := by decide +kernel
theorem dX4_init_31 : decode cX4_init 31 = .ok (.anewarray 21, 3) := by decide +kernel
theorem dX4_init_34 : decode cX4_init 34 = .ok (.putfield 23, 3) := by decide +kernel
theorem dX4_init_37 : decode cX4_init 37 = .ok (.aload_n 0, 1) := by decide +kernel
theorem dX4_init_38 : decode cX4_init 38 = .ok (.bipush 9, 2) := by decide +kernel
theorem dX4_init_40 : decode cX4_init 40 = .ok (.newarray .int, 2) := by decide +kernel
theorem dX4_init_42 : decode cX4_init 42 = .ok (.putfield 27, 3) := by decide +kernel
theorem dX4_init_45 : decode cX4_init 45 = .ok (.iconst 0, 1) := by decide +kernel
theorem dX4_init_46 : decode cX4_init 46 = .ok (.istore_n 2, 1) := by decide +kernel
theorem dX4_init_47 : decode cX4_init 47 = .ok (.iload_n 2, 1) := by decide +kernel
theorem dX4_init_48 : decode cX4_init 48 = .ok (.bipush 10, 2) := by decide +kernel
theorem dX4_init_50 : decode cX4_init 50 = .ok (.if_icmp .ge 22, 3) := by decide +kernel
theorem dX4_init_53 : decode cX4_init 53 = .ok (.aload_n 0, 1) := by decide +kernel
theorem dX4_init_54 : decode cX4_init 54 = .ok (.getfield 23, 3) := by decide +kernel
theorem dX4_init_57 : decode cX4_init 57 = .ok (.iload_n 2, 1) := by decide +kernel
theorem dX4_init_58 : decode cX4_init 58 = .ok (.new 21, 3) := by decide +kernel
theorem dX4_init_61 : decode cX4_init 61 = .ok (.dup, 1) := by decide +kernel
theorem dX4_init_62 : decode cX4_init 62 = .ok (.invokespecial 30, 3) := by decide +kernel
theorem dX4_init_65 : decode cX4_init 65 = .ok (.aastore, 1) := by decide +kernel
theorem dX4_init_66 : decode cX4_init 66 = .ok (.iinc 2 1, 3) := by decide +kernel
theorem dX4_init_69 : decode cX4_init 69 = .ok (.goto (-22), 3) := by decide +kernel
theorem dX4_init_72 : decode cX4_init 72 = .ok (.aload_n 0, 1) := by decide +kernel
theorem dX4_init_73 : decode cX4_init 73 = .ok (.aload_n 1, 1) := by decide +kernel
theorem dX4_init_74 : decode cX4_init 74 = .ok (.putfield 31, 3) := by decide +kernel
theorem dX4_init_77 : decode cX4_init 77 = .ok (.aload_n 0, 1) := by decide +kernel
theorem dX4_init_78 : decode cX4_init 78 = .ok (.iconst (-1), 1) := by decide +kernel
theorem dX4_init_79 : decode cX4_init 79 = .ok (.putfield 35, 3) := by decide +kernel
theorem dX4_init_82 : decode cX4_init 82 = .ok (.return_, 1) := by decide +kernel
theorem dX4_begin_0 : decode cX4_begin 0 = .ok (.aload_n 0, 1) := by decide +kernel
theorem dX4_begin_1 : decode cX4_begin 1 = .ok (.aload_n 1, 1) := by decide +kernel
theorem dX4_begin_2 : decode cX4_begin 2 = .ok (.putfield 31, 3) := by decide +kernel
theorem dX4_begin_5 : decode cX4_begin 5 = .ok (.aload_n 0, 1) := by decide +kernel
theorem dX4_begin_6 : decode cX4_begin 6 = .ok (.iconst 0, 1) := by decide +kernel
theorem dX4_begin_7 : decode cX4_begin 7 = .ok (.putfield 39, 3) := by decide +kernel
theorem dX4_begin_10 : decode cX4_begin 10 = .ok (.aload_n 1, 1) := by decide +kernel
theorem dX4_begin_11 : decode cX4_begin 11 = .ok (.getfield 42, 3) := by decide +kernel
theorem dX4_begin_14 : decode cX4_begin 14 = .ok (.iconst 0, 1) := by decide +kernel
theorem dX4_begin_15 : decode cX4_begin 15 = .ok (.aload_n 0, 1) := by decide +kernel
theorem dX4_begin_16 : decode cX4_begin 16 = .ok (.getfield 9, 3) := by decide +kernel
theorem dX4_begin_19 : decode cX4_begin 19 = .ok (.iconst 0, 1) := by decide +kernel
theorem dX4_begin_20 : decode cX4_begin 20 = .ok (.bipush 8, 2) := by decide +kernel
theorem dX4_begin_22 : decode cX4_begin 22 = .ok (.invokestatic 45, 3) := by decide +kernel
theorem dX4_begin_25 : decode cX4_begin 25 = .ok (.aload_n 1, 1) := by decide +kernel
theorem dX4_begin_26 : decode cX4_begin 26 = .ok (.getfield 51, 3) := by decide +kernel
theorem dX4_begin_29 : decode cX4_begin 29 = .ok (.iconst 0, 1) := by decide +kernel
theorem dX4_begin_30 : decode cX4_begin 30 = .ok (.aload_n 0, 1) := by decide +kernel
theorem dX4_begin_31 : decode cX4_begin 31 = .ok (.getfield 15, 3) := by decide +kernel
theorem dX4_begin_34 : decode cX4_begin 34 = .ok (.iconst 0, 1) := by decide +kernel
theorem dX4_begin_35 : decode cX4_begin 35 = .ok (.bipush 6, 2) := by decide +kernel
theorem dX4_begin_37 : decode cX4_begin 37 = .ok (.invokestatic 45, 3) := by decide +kernel
theorem dX4_begin_40 : decode cX4_begin 40 = .ok (.aload_n 1, 1) := by decide +kernel
theorem dX4_begin_41 : decode cX4_begin 41 = .ok (.getfield 52, 3) := by decide +kernel
theorem dX4_begin_44 : decode cX4_begin 44 = .ok (.iconst 0, 1) := by decide +kernel
theorem dX4_begin_45 : decode cX4_begin 45 = .ok (.aload_n 0, 1) := by decide +kernel
theorem dX4_begin_46 : decode cX4_begin 46 = .ok (.getfield 18, 3) := by decide +kernel
theorem dX4_begin_49 : decode cX4_begin 49 = .ok (.iconst 0, 1) := by decide +kernel
theorem dX4_begin_50 : decode cX4_begin 50 = .ok (.bipush 6, 2) := by decide +kernel
theorem dX4_begin_52 : decode cX4_begin 52 = .ok (.invokestatic 45, 3) := by decide +kernel
theorem dX4_begin_55 : decode cX4_begin 55 = .ok (.iconst 0, 1) := by decide +kernel
theorem dX4_begin_56 : decode cX4_begin 56 = .ok (.istore_n 2, 1) := by decide +kernel
theorem dX4_begin_57 : decode cX4_begin 57 = .ok (.iload_n 2, 1) := by decide +kernel
theorem dX4_begin_58 : decode cX4_begin 58 = .ok (.bipush 10, 2) := by decide +kernel
theorem dX4_begin_60 : decode cX4_begin 60 = .ok (.if_icmp .ge 24, 3) := by decide +kernel
theorem dX4_begin_63 : decode cX4_begin 63 = .ok (.aload_n 0, 1) := by decide +kernel
theorem dX4_begin_64 : decode cX4_begin 64 = .ok (.getfield 23, 3) := by decide +kernel
theorem dX4_begin_67 : decode cX4_begin 67 = .ok (.iload_n 2, 1) := by decide +kernel
theorem dX4_begin_68 : decode cX4_begin 68 = .ok (.aaload, 1) := by decide +kernel
theorem dX4_begin_69 : decode cX4_begin 69 = .ok (.aload_n 1, 1) := by decide +kernel
theorem dX4_begin_70 : decode cX4_begin 70 = .ok (.getfield 53, 3) := by decide +kernel
theorem dX4_begin_73 : decode cX4_begin 73 = .ok (.iload_n 2, 1) := by decide +kernel
theorem dX4_begin_74 : decode cX4_begin 74 = .ok (.iaload, 1) := by decide +kernel
theorem dX4_begin_75 : decode cX4_begin 75 = .ok (.invokevirtual 56, 3) := by decide +kernel
theorem dX4_begin_78 : decode cX4_begin 78 = .ok (.iinc 2 1, 3) := by decide +kernel
theorem dX4_begin_81 : decode cX4_begin 81 = .ok (.goto (-24), 3) := by decide +kernel
theorem dX4_begin_84 : decode cX4_begin 84 = .ok (.return_, 1) := by decide +kernel
theorem dX4_copyFrom_0 : decode cX4_copyFrom 0 = .ok (.aload_n 0, 1) := by decide +kernel
theorem dX4_copyFrom_1 : decode cX4_copyFrom 1 = .ok (.aload_n 1, 1) := by decide +kernel
theorem dX4_copyFrom_2 : decode cX4_copyFrom 2 = .ok (.getfield 31, 3) := by decide +kernel
theorem dX4_copyFrom_5 : decode cX4_copyFrom 5 = .ok (.putfield 31, 3) := by decide +kernel
theorem dX4_copyFrom_8 : decode cX4_copyFrom 8 = .ok (.aload_n 0, 1) := by decide +kernel
theorem dX4_copyFrom_9 : decode cX4_copyFrom 9 = .ok (.aload_n 1, 1) := by decide +kernel
theorem dX4_copyFrom_10 : decode cX4_copyFrom 10 = .ok (.getfield 39, 3) := by decide +kernel
theorem dX4_copyFrom_13 : decode cX4_copyFrom 13 = .ok (.putfield 39, 3) := by decide +kernel
theorem dX4_copyFrom_16 : decode cX4_copyFrom 16 = .ok (.aload_n 0, 1) := by decide +kernel
theorem dX4_copyFrom_17 : decode cX4_copyFrom 17 = .ok (.iconst (-1), 1) := by decide +kernel
theorem dX4_copyFrom_18 : decode cX4_copyFrom 18 = .ok (.putfield 35, 3) := by decide +kernel
theorem dX4_copyFrom_21 : decode cX4_copyFrom 21 = .ok (.aload_n 1, 1) := by decide +kernel
theorem dX4_copyFrom_22 : decode cX4_copyFrom 22 = .ok (.getfield 9, 3) := by decide +kernel
theorem dX4_copyFrom_25 : decode cX4_copyFrom 25 = .ok (.iconst 0, 1) := by decide +kernel
theorem dX4_copyFrom_26 : decode cX4_copyFrom 26 = .ok (.aload_n 0, 1) := by decide +kernel
theorem dX4_copyFrom_27 : decode cX4_copyFrom 27 = .ok (.getfield 9, 3) := by decide +kernel
theorem dX4_copyFrom_30 : decode cX4_copyFrom 30 = .ok (.iconst 0, 1) := by decide +kernel
theorem dX4_copyFrom_31 : decode cX4_copyFrom 31 = .ok (.bipush 8, 2) := by decide +kernel
theorem dX4_copyFrom_33 : decode cX4_copyFrom 33 = .ok (.invokestatic 45, 3) := by decide +kernel
theorem dX4_copyFrom_36 : decode cX4_copyFrom 36 = .ok (.aload_n 1, 1) := by decide +kernel
theorem dX4_copyFrom_37 : decode cX4_copyFrom 37 = .ok (.getfield 15, 3) := by decide +kernel
theorem dX4_copyFrom_40 : decode cX4_copyFrom 40 = .ok (.iconst 0, 1) := by decide +kernel
theorem dX4_copyFrom_41 : decode cX4_copyFrom 41 = .ok (.aload_n 0, 1) := by decide +kernel
theorem dX4_copyFrom_42 : decode cX4_copyFrom 42 = .ok (.getfield 15, 3) := by decide +kernel
theorem dX4_copyFrom_45 : decode cX4_copyFrom 45 = .ok (.iconst 0, 1) := by decide +kernel
theorem dX4_copyFrom_46 : decode cX4_copyFrom 46 = .ok (.bipush 6, 2) := by decide +kernel
theorem dX4_copyFrom_48 : decode cX4_copyFrom 48 = .ok (.invokestatic 45, 3) := by decide +kernel
theorem dX4_copyFrom_51 : decode cX4_copyFrom 51 = .ok (.aload_n 1, 1) := by decide +kernel
theorem dX4_copyFrom_52 : decode cX4_copyFrom 52 = .ok (.getfield 18, 3) := by decide +kernel
theorem dX4_copyFrom_55 : decode cX4_copyFrom 55 = .ok (.iconst 0, 1) := by decide +kernel
theorem dX4_copyFrom_56 : decode cX4_copyFrom 56 = .ok (.aload_n 0, 1) := by decide +kernel
theorem dX4_copyFrom_57 : decode cX4_copyFrom 57 = .ok (.getfield 18, 3) := by decide +kernel
theorem dX4_copyFrom_60 : decode cX4_copyFrom 60 = .ok (.iconst 0, 1) := by decide +kernel
theorem dX4_copyFrom_61 : decode cX4_copyFrom 61 = .ok (.bipush 6, 2) := by decide +kernel
theorem dX4_copyFrom_63 : decode cX4_copyFrom 63 = .ok (.invokestatic 45, 3) := by decide +kernel
theorem dX4_copyFrom_66 : decode cX4_copyFrom 66 = .ok (.iconst 0, 1) := by decide +kernel
theorem dX4_copyFrom_67 : decode cX4_copyFrom 67 = .ok (.istore_n 2, 1) := by decide +kernel
theorem dX4_copyFrom_68 : decode cX4_copyFrom 68 = .ok (.iload_n 2, 1) := by decide +kernel
theorem dX4_copyFrom_69 : decode cX4_copyFrom 69 = .ok (.bipush 10, 2) := by decide +kernel
theorem dX4_copyFrom_71 : decode cX4_copyFrom 71 = .ok (.if_icmp .ge 24, 3) := by decide +kernel
theorem dX4_copyFrom_74 : decode cX4_copyFrom 74 = .ok (.aload_n 0, 1) := by decide +kernel
theorem dX4_copyFrom_75 : decode cX4_copyFrom 75 = .ok (.getfield 23, 3) := by decide +kernel
theorem dX4_copyFrom_78 : decode cX4_copyFrom 78 = .ok (.iload_n 2, 1) := by decide +kernel
theorem dX4_copyFrom_79 : decode cX4_copyFrom 79 = .ok (.aaload, 1) := by decide +kernel
theorem dX4_copyFrom_80 : decode cX4_copyFrom 80 = .ok (.aload_n 1, 1) := by decide +kernel
theorem dX4_copyFrom_81 : decode cX4_copyFrom 81 = .ok (.getfield 23, 3) := by decide +kernel
theorem dX4_copyFrom_84 : decode cX4_copyFrom 84 = .ok (.iload_n 2, 1) := by decide +kernel
theorem dX4_copyFrom_85 : decode cX4_copyFrom 85 = .ok (.aaload, 1) := by decide +kernel
theorem dX4_copyFrom_86 : decode cX4_copyFrom 86 = .ok (.invokevirtual 60, 3) := by decide +kernel
theorem dX4_copyFrom_89 : decode cX4_copyFrom 89 = .ok (.iinc 2 1, 3) := by decide +kernel
theorem dX4_copyFrom_92 : decode cX4_copyFrom 92 = .ok (.goto (-24), 3) := by decide +kernel
theorem dX4_copyFrom_95 : decode cX4_copyFrom 95 = .ok (.return_, 1) := by decide +kernel
theorem dX4_menIn_0 : decode cX4_menIn 0 = .ok (.iconst 0, 1) := by decide +kernel
theorem dX4_menIn_1 : decode cX4_menIn 1 = .ok (.istore_n 3, 1) := by decide +kernel
theorem dX4_menIn_2 : decode cX4_menIn 2 = .ok (.iconst 0, 1) := by decide +kernel
theorem dX4_menIn_3 : decode cX4_menIn 3 = .ok (.istore 4, 2) := by decide +kernel
theorem dX4_menIn_5 : decode cX4_menIn 5 = .ok (.iload 4, 2) := by decide +kernel
theorem dX4_menIn_7 : decode cX4_menIn 7 = .ok (.aload_n 0, 1) := by decide +kernel
theorem dX4_menIn_8 : decode cX4_menIn 8 = .ok (.getfield 31, 3) := by decide +kernel
theorem dX4_menIn_11 : decode cX4_menIn 11 = .ok (.getfield 64, 3) := by decide +kernel
theorem dX4_menIn_14 : decode cX4_menIn 14 = .ok (.if_icmp .ge 61, 3) := by decide +kernel
theorem dX4_menIn_17 : decode cX4_menIn 17 = .ok (.aload_n 0, 1) := by decide +kernel
theorem dX4_menIn_18 : decode cX4_menIn 18 = .ok (.getfield 15, 3) := by decide +kernel
theorem dX4_menIn_21 : decode cX4_menIn 21 = .ok (.iload 4, 2) := by decide +kernel
theorem dX4_menIn_23 : decode cX4_menIn 23 = .ok (.iaload, 1) := by decide +kernel
theorem dX4_menIn_24 : decode cX4_menIn 24 = .ok (.iload_n 1, 1) := by decide +kernel
theorem dX4_menIn_25 : decode cX4_menIn 25 = .ok (.if_icmp .eq 14, 3) := by decide +kernel
theorem dX4_menIn_28 : decode cX4_menIn 28 = .ok (.aload_n 0, 1) := by decide +kernel
theorem dX4_menIn_29 : decode cX4_menIn 29 = .ok (.getfield 15, 3) := by decide +kernel
theorem dX4_menIn_32 : decode cX4_menIn 32 = .ok (.iload 4, 2) := by decide +kernel
theorem dX4_menIn_34 : decode cX4_menIn 34 = .ok (.iaload, 1) := by decide +kernel
theorem dX4_menIn_35 : decode cX4_menIn 35 = .ok (.iload_n 2, 1) := by decide +kernel
theorem dX4_menIn_36 : decode cX4_menIn 36 = .ok (.if_icmp .ne 7, 3) := by decide +kernel
theorem dX4_menIn_39 : decode cX4_menIn 39 = .ok (.iconst 1, 1) := by decide +kernel
theorem dX4_menIn_40 : decode cX4_menIn 40 = .ok (.goto 4, 3) := by decide +kernel
theorem dX4_menIn_43 : decode cX4_menIn 43 = .ok (.iconst 0, 1) := by decide +kernel
theorem dX4_menIn_44 : decode cX4_menIn 44 = .ok (.istore 5, 2) := by decide +kernel
theorem dX4_menIn_46 : decode cX4_menIn 46 = .ok (.iload 5, 2) := by decide +kernel
theorem dX4_menIn_48 : decode cX4_menIn 48 = .ok (.ifCond .eq 21, 3) := by decide +kernel
theorem dX4_menIn_51 : decode cX4_menIn 51 = .ok (.aload_n 0, 1) := by decide +kernel
theorem dX4_menIn_52 : decode cX4_menIn 52 = .ok (.getfield 15, 3) := by decide +kernel
theorem dX4_menIn_55 : decode cX4_menIn 55 = .ok (.iload 4, 2) := by decide +kernel
theorem dX4_menIn_57 : decode cX4_menIn 57 = .ok (.iaload, 1) := by decide +kernel
theorem dX4_menIn_58 : decode cX4_menIn 58 = .ok (.iconst (-1), 1) := by decide +kernel
theorem dX4_menIn_59 : decode cX4_menIn 59 = .ok (.if_icmp .eq 10, 3) := by decide +kernel
theorem dX4_menIn_62 : decode cX4_menIn 62 = .ok (.iload_n 3, 1) := by decide +kernel
theorem dX4_menIn_63 : decode cX4_menIn 63 = .ok (.iconst 1, 1) := by decide +kernel
theorem dX4_menIn_64 : decode cX4_menIn 64 = .ok (.iload 4, 2) := by decide +kernel
theorem dX4_menIn_66 : decode cX4_menIn 66 = .ok (.ishl, 1) := by decide +kernel
theorem dX4_menIn_67 : decode cX4_menIn 67 = .ok (.ior, 1) := by decide +kernel
theorem dX4_menIn_68 : decode cX4_menIn 68 = .ok (.istore_n 3, 1) := by decide +kernel
theorem dX4_menIn_69 : decode cX4_menIn 69 = .ok (.iinc 4 1, 3) := by decide +kernel
theorem dX4_menIn_72 : decode cX4_menIn 72 = .ok (.goto (-67), 3) := by decide +kernel
theorem dX4_menIn_75 : decode cX4_menIn 75 = .ok (.iload_n 3, 1) := by decide +kernel
theorem dX4_menIn_76 : decode cX4_menIn 76 = .ok (.ireturn, 1) := by decide +kernel
theorem dX4_menHeld_0 : decode cX4_menHeld 0 = .ok (.iconst 0, 1) := by decide +kernel
theorem dX4_menHeld_1 : decode cX4_menHeld 1 = .ok (.istore_n 1, 1) := by decide +kernel
theorem dX4_menHeld_2 : decode cX4_menHeld 2 = .ok (.iconst 0, 1) := by decide +kernel
theorem dX4_menHeld_3 : decode cX4_menHeld 3 = .ok (.istore_n 2, 1) := by decide +kernel
theorem dX4_menHeld_4 : decode cX4_menHeld 4 = .ok (.iload_n 2, 1) := by decide +kernel
theorem dX4_menHeld_5 : decode cX4_menHeld 5 = .ok (.aload_n 0, 1) := by decide +kernel
theorem dX4_menHeld_6 : decode cX4_menHeld 6 = .ok (.getfield 31, 3) := by decide +kernel
theorem dX4_menHeld_9 : decode cX4_menHeld 9 = .ok (.getfield 64, 3) := by decide +kernel
theorem dX4_menHeld_12 : decode cX4_menHeld 12 = .ok (.if_icmp .ge 27, 3) := by decide +kernel
theorem dX4_menHeld_15 : decode cX4_menHeld 15 = .ok (.iload_n 1, 1) := by decide +kernel
theorem dX4_menHeld_16 : decode cX4_menHeld 16 = .ok (.aload_n 0, 1) := by decide +kernel
theorem dX4_menHeld_17 : decode cX4_menHeld 17 = .ok (.getfield 15, 3) := by decide +kernel
theorem dX4_menHeld_20 : decode cX4_menHeld 20 = .ok (.iload_n 2, 1) := by decide +kernel
theorem dX4_menHeld_21 : decode cX4_menHeld 21 = .ok (.iaload, 1) := by decide +kernel
theorem dX4_menHeld_22 : decode cX4_menHeld 22 = .ok (.iconst (-1), 1) := by decide +kernel
theorem dX4_menHeld_23 : decode cX4_menHeld 23 = .ok (.if_icmp .eq 7, 3) := by decide +kernel
theorem dX4_menHeld_26 : decode cX4_menHeld 26 = .ok (.iconst 1, 1) := by decide +kernel
theorem dX4_menHeld_27 : decode cX4_menHeld 27 = .ok (.goto 4, 3) := by decide +kernel
theorem dX4_menHeld_30 : decode cX4_menHeld 30 = .ok (.iconst 0, 1) := by decide +kernel
theorem dX4_menHeld_31 : decode cX4_menHeld 31 = .ok (.iadd, 1) := by decide +kernel
theorem dX4_menHeld_32 : decode cX4_menHeld 32 = .ok (.istore_n 1, 1) := by decide +kernel
theorem dX4_menHeld_33 : decode cX4_menHeld 33 = .ok (.iinc 2 1, 3) := by decide +kernel
theorem dX4_menHeld_36 : decode cX4_menHeld 36 = .ok (.goto (-32), 3) := by decide +kernel
theorem dX4_menHeld_39 : decode cX4_menHeld 39 = .ok (.iload_n 1, 1) := by decide +kernel
theorem dX4_menHeld_40 : decode cX4_menHeld 40 = .ok (.ireturn, 1) := by decide +kernel
theorem dX4_guardsIn_0 : decode cX4_guardsIn 0 = .ok (.iconst 0, 1) := by decide +kernel
theorem dX4_guardsIn_1 : decode cX4_guardsIn 1 = .ok (.istore_n 2, 1) := by decide +kernel
theorem dX4_guardsIn_2 : decode cX4_guardsIn 2 = .ok (.iconst 0, 1) := by decide +kernel
theorem dX4_guardsIn_3 : decode cX4_guardsIn 3 = .ok (.istore_n 3, 1) := by decide +kernel
theorem dX4_guardsIn_4 : decode cX4_guardsIn 4 = .ok (.iload_n 3, 1) := by decide +kernel
theorem dX4_guardsIn_5 : decode cX4_guardsIn 5 = .ok (.aload_n 0, 1) := by decide +kernel
theorem dX4_guardsIn_6 : decode cX4_guardsIn 6 = .ok (.getfield 31, 3) := by decide +kernel
theorem dX4_guardsIn_9 : decode cX4_guardsIn 9 = .ok (.getfield 67, 3) := by decide +kernel
theorem dX4_guardsIn_12 : decode cX4_guardsIn 12 = .ok (.if_icmp .ge 33, 3) := by decide +kernel
theorem dX4_guardsIn_15 : decode cX4_guardsIn 15 = .ok (.iload_n 2, 1) := by decide +kernel
theorem dX4_guardsIn_16 : decode cX4_guardsIn 16 = .ok (.aload_n 0, 1) := by decide +kernel
theorem dX4_guardsIn_17 : decode cX4_guardsIn 17 = .ok (.getfield 31, 3) := by decide +kernel
theorem dX4_guardsIn_20 : decode cX4_guardsIn 20 = .ok (.iload_n 3, 1) := by decide +kernel
theorem dX4_guardsIn_21 : decode cX4_guardsIn 21 = .ok (.aload_n 0, 1) := by decide +kernel
theorem dX4_guardsIn_22 : decode cX4_guardsIn 22 = .ok (.getfield 39, 3) := by decide +kernel
theorem dX4_guardsIn_25 : decode cX4_guardsIn 25 = .ok (.invokevirtual 70, 3) := by decide +kernel
theorem dX4_guardsIn_28 : decode cX4_guardsIn 28 = .ok (.iload_n 1, 1) := by decide +kernel
theorem dX4_guardsIn_29 : decode cX4_guardsIn 29 = .ok (.if_icmp .ne 7, 3) := by decide +kernel
theorem dX4_guardsIn_32 : decode cX4_guardsIn 32 = .ok (.iconst 1, 1) := by decide +kernel
theorem dX4_guardsIn_33 : decode cX4_guardsIn 33 = .ok (.goto 4, 3) := by decide +kernel
theorem dX4_guardsIn_36 : decode cX4_guardsIn 36 = .ok (.iconst 0, 1) := by decide +kernel
theorem dX4_guardsIn_37 : decode cX4_guardsIn 37 = .ok (.iadd, 1) := by decide +kernel
theorem dX4_guardsIn_38 : decode cX4_guardsIn 38 = .ok (.istore_n 2, 1) := by decide +kernel
theorem dX4_guardsIn_39 : decode cX4_guardsIn 39 = .ok (.iinc 3 1, 3) := by decide +kernel
theorem dX4_guardsIn_42 : decode cX4_guardsIn 42 = .ok (.goto (-38), 3) := by decide +kernel
theorem dX4_guardsIn_45 : decode cX4_guardsIn 45 = .ok (.iload_n 2, 1) := by decide +kernel
theorem dX4_guardsIn_46 : decode cX4_guardsIn 46 = .ok (.ireturn, 1) := by decide +kernel
theorem dX4_someLoose_0 : decode cX4_someLoose 0 = .ok (.iconst 0, 1) := by decide +kernel
theorem dX4_someLoose_1 : decode cX4_someLoose 1 = .ok (.istore_n 1, 1) := by decide +kernel
theorem dX4_someLoose_2 : decode cX4_someLoose 2 = .ok (.iload_n 1, 1) := by decide +kernel
theorem dX4_someLoose_3 : decode cX4_someLoose 3 = .ok (.aload_n 0, 1) := by decide +kernel
theorem dX4_someLoose_4 : decode cX4_someLoose 4 = .ok (.getfield 31, 3) := by decide +kernel
theorem dX4_someLoose_7 : decode cX4_someLoose 7 = .ok (.getfield 74, 3) := by decide +kernel
theorem dX4_someLoose_10 : decode cX4_someLoose 10 = .ok (.if_icmp .ge 23, 3) := by decide +kernel
theorem dX4_someLoose_13 : decode cX4_someLoose 13 = .ok (.aload_n 0, 1) := by decide +kernel
theorem dX4_someLoose_14 : decode cX4_someLoose 14 = .ok (.getfield 23, 3) := by decide +kernel
theorem dX4_someLoose_17 : decode cX4_someLoose 17 = .ok (.iload_n 1, 1) := by decide +kernel
theorem dX4_someLoose_18 : decode cX4_someLoose 18 = .ok (.aaload, 1) := by decide +kernel
theorem dX4_someLoose_19 : decode cX4_someLoose 19 = .ok (.invokevirtual 77, 3) := by decide +kernel
theorem dX4_someLoose_22 : decode cX4_someLoose 22 = .ok (.ifCond .eq 5, 3) := by decide +kernel
theorem dX4_someLoose_25 : decode cX4_someLoose 25 = .ok (.iconst 1, 1) := by decide +kernel
theorem dX4_someLoose_26 : decode cX4_someLoose 26 = .ok (.ireturn, 1) := by decide +kernel
theorem dX4_someLoose_27 : decode cX4_someLoose 27 = .ok (.iinc 1 1, 3) := by decide +kernel
theorem dX4_someLoose_30 : decode cX4_someLoose 30 = .ok (.goto (-28), 3) := by decide +kernel
theorem dX4_someLoose_33 : decode cX4_someLoose 33 = .ok (.iconst 0, 1) := by decide +kernel
theorem dX4_someLoose_34 : decode cX4_someLoose 34 = .ok (.ireturn, 1) := by decide +kernel
theorem dX4_degreesBehind_0 : decode cX4_degreesBehind 0 = .ok (.aload_n 0, 1) := by decide +kernel
theorem dX4_degreesBehind_1 : decode cX4_degreesBehind 1 = .ok (.getfield 31, 3) := by decide +kernel
theorem dX4_degreesBehind_4 : decode cX4_degreesBehind 4 = .ok (.getfield 81, 3) := by decide +kernel
theorem dX4_degreesBehind_7 : decode cX4_degreesBehind 7 = .ok (.ifnonnull 6, 3) := by decide +kernel
theorem dX4_degreesBehind_10 : decode cX4_degreesBehind 10 = .ok (.bipush (-10), 2) := by decide +kernel
theorem dX4_degreesBehind_12 : decode cX4_degreesBehind 12 = .ok (.ireturn, 1) := by decide +kernel
theorem dX4_degreesBehind_13 : decode cX4_degreesBehind 13 = .ok (.aload_n 0, 1) := by decide +kernel
theorem dX4_degreesBehind_14 : decode cX4_degreesBehind 14 = .ok (.getfield 27, 3) := by decide +kernel
theorem dX4_degreesBehind_17 : decode cX4_degreesBehind 17 = .ok (.iconst 0, 1) := by decide +kernel
theorem dX4_degreesBehind_18 : decode cX4_degreesBehind 18 = .ok (.aload_n 0, 1) := by decide +kernel
theorem dX4_degreesBehind_19 : decode cX4_degreesBehind 19 = .ok (.getfield 39, 3) := by decide +kernel
theorem dX4_degreesBehind_22 : decode cX4_degreesBehind 22 = .ok (.iload_n 1, 1) := by decide +kernel
theorem dX4_degreesBehind_23 : decode cX4_degreesBehind 23 = .ok (.iadd, 1) := by decide +kernel
theorem dX4_degreesBehind_24 : decode cX4_degreesBehind 24 = .ok (.bipush 24, 2) := by decide +kernel
theorem dX4_degreesBehind_26 : decode cX4_degreesBehind 26 = .ok (.irem, 1) := by decide +kernel
theorem dX4_degreesBehind_27 : decode cX4_degreesBehind 27 = .ok (.iastore, 1) := by decide +kernel
theorem dX4_degreesBehind_28 : decode cX4_degreesBehind 28 = .ok (.aload_n 0, 1) := by decide +kernel
theorem dX4_degreesBehind_29 : decode cX4_degreesBehind 29 = .ok (.getfield 27, 3) := by decide +kernel
theorem dX4_degreesBehind_32 : decode cX4_degreesBehind 32 = .ok (.iconst 1, 1) := by decide +kernel
theorem dX4_degreesBehind_33 : decode cX4_degreesBehind 33 = .ok (.aload_n 0, 1) := by decide +kernel
theorem dX4_degreesBehind_34 : decode cX4_degreesBehind 34 = .ok (.getfield 39, 3) := by decide +kernel
theorem dX4_degreesBehind_37 : decode cX4_degreesBehind 37 = .ok (.iload_n 1, 1) := by decide +kernel
theorem dX4_degreesBehind_38 : decode cX4_degreesBehind 38 = .ok (.iadd, 1) := by decide +kernel
theorem dX4_degreesBehind_39 : decode cX4_degreesBehind 39 = .ok (.bipush 24, 2) := by decide +kernel
theorem dX4_degreesBehind_41 : decode cX4_degreesBehind 41 = .ok (.idiv, 1) := by decide +kernel
theorem dX4_degreesBehind_42 : decode cX4_degreesBehind 42 = .ok (.iastore, 1) := by decide +kernel
theorem dX4_degreesBehind_43 : decode cX4_degreesBehind 43 = .ok (.aload_n 0, 1) := by decide +kernel
theorem dX4_degreesBehind_44 : decode cX4_degreesBehind 44 = .ok (.getfield 27, 3) := by decide +kernel
theorem dX4_degreesBehind_47 : decode cX4_degreesBehind 47 = .ok (.iconst 2, 1) := by decide +kernel
theorem dX4_degreesBehind_48 : decode cX4_degreesBehind 48 = .ok (.iload_n 2, 1) := by decide +kernel
theorem dX4_degreesBehind_49 : decode cX4_degreesBehind 49 = .ok (.iastore, 1) := by decide +kernel
theorem dX4_degreesBehind_50 : decode cX4_degreesBehind 50 = .ok (.bipush 40, 2) := by decide +kernel
theorem dX4_degreesBehind_52 : decode cX4_degreesBehind 52 = .ok (.aload_n 0, 1) := by decide +kernel
theorem dX4_degreesBehind_53 : decode cX4_degreesBehind 53 = .ok (.getfield 31, 3) := by decide +kernel
theorem dX4_degreesBehind_56 : decode cX4_degreesBehind 56 = .ok (.getfield 81, 3) := by decide +kernel
theorem dX4_degreesBehind_59 : decode cX4_degreesBehind 59 = .ok (.aload_n 0, 1) := by decide +kernel
theorem dX4_degreesBehind_60 : decode cX4_degreesBehind 60 = .ok (.getfield 27, 3) := by decide +kernel
theorem dX4_degreesBehind_63 : decode cX4_degreesBehind 63 = .ok (.invokevirtual 85, 3) := by decide +kernel
theorem dX4_degreesBehind_66 : decode cX4_degreesBehind 66 = .ok (.invokestatic 91, 3) := by decide +kernel
theorem dX4_degreesBehind_69 : decode cX4_degreesBehind 69 = .ok (.ireturn, 1) := by decide +kernel
theorem dX4_laySalt_0 : decode cX4_laySalt 0 = .ok (.aload_n 0, 1) := by decide +kernel
theorem dX4_laySalt_1 : decode cX4_laySalt 1 = .ok (.getfield 23, 3) := by decide +kernel
theorem dX4_laySalt_4 : decode cX4_laySalt 4 = .ok (.iload_n 2, 1) := by decide +kernel
theorem dX4_laySalt_5 : decode cX4_laySalt 5 = .ok (.aaload, 1) := by decide +kernel
theorem dX4_laySalt_6 : decode cX4_laySalt 6 = .ok (.astore_n 3, 1) := by decide +kernel
theorem dX4_laySalt_7 : decode cX4_laySalt 7 = .ok (.aload_n 0, 1) := by decide +kernel
theorem dX4_laySalt_8 : decode cX4_laySalt 8 = .ok (.getfield 18, 3) := by decide +kernel
theorem dX4_laySalt_11 : decode cX4_laySalt 11 = .ok (.iload_n 1, 1) := by decide +kernel
theorem dX4_laySalt_12 : decode cX4_laySalt 12 = .ok (.dup2, 1) := by decide +kernel
theorem dX4_laySalt_13 : decode cX4_laySalt 13 = .ok (.iaload, 1) := by decide +kernel
theorem dX4_laySalt_14 : decode cX4_laySalt 14 = .ok (.iconst 1, 1) := by decide +kernel
theorem dX4_laySalt_15 : decode cX4_laySalt 15 = .ok (.isub, 1) := by decide +kernel
theorem dX4_laySalt_16 : decode cX4_laySalt 16 = .ok (.iastore, 1) := by decide +kernel
theorem dX4_laySalt_17 : decode cX4_laySalt 17 = .ok (.aload_n 3, 1) := by decide +kernel
theorem dX4_laySalt_18 : decode cX4_laySalt 18 = .ok (.dup, 1) := by decide +kernel
theorem dX4_laySalt_19 : decode cX4_laySalt 19 = .ok (.getfield 94, 3) := by decide +kernel
theorem dX4_laySalt_22 : decode cX4_laySalt 22 = .ok (.iconst 1, 1) := by decide +kernel
theorem dX4_laySalt_23 : decode cX4_laySalt 23 = .ok (.iadd, 1) := by decide +kernel
theorem dX4_laySalt_24 : decode cX4_laySalt 24 = .ok (.putfield 94, 3) := by decide +kernel
theorem dX4_laySalt_27 : decode cX4_laySalt 27 = .ok (.aload_n 3, 1) := by decide +kernel
theorem dX4_laySalt_28 : decode cX4_laySalt 28 = .ok (.getfield 97, 3) := by decide +kernel
theorem dX4_laySalt_31 : decode cX4_laySalt 31 = .ok (.iconst (-1), 1) := by decide +kernel
theorem dX4_laySalt_32 : decode cX4_laySalt 32 = .ok (.if_icmp .ne 29, 3) := by decide +kernel
theorem dX4_laySalt_35 : decode cX4_laySalt 35 = .ok (.aload_n 3, 1) := by decide +kernel
theorem dX4_laySalt_36 : decode cX4_laySalt 36 = .ok (.aload_n 0, 1) := by decide +kernel
theorem dX4_laySalt_37 : decode cX4_laySalt 37 = .ok (.aload_n 0, 1) := by decide +kernel
theorem dX4_laySalt_38 : decode cX4_laySalt 38 = .ok (.getfield 31, 3) := by decide +kernel
theorem dX4_laySalt_41 : decode cX4_laySalt 41 = .ok (.getfield 100, 3) := by decide +kernel
theorem dX4_laySalt_44 : decode cX4_laySalt 44 = .ok (.iload_n 2, 1) := by decide +kernel
theorem dX4_laySalt_45 : decode cX4_laySalt 45 = .ok (.iaload, 1) := by decide +kernel
theorem dX4_laySalt_46 : decode cX4_laySalt 46 = .ok (.aload_n 0, 1) := by decide +kernel
theorem dX4_laySalt_47 : decode cX4_laySalt 47 = .ok (.getfield 31, 3) := by decide +kernel
theorem dX4_laySalt_50 : decode cX4_laySalt 50 = .ok (.getfield 103, 3) := by decide +kernel
theorem dX4_laySalt_53 : decode cX4_laySalt 53 = .ok (.iload_n 2, 1) := by decide +kernel
theorem dX4_laySalt_54 : decode cX4_laySalt 54 = .ok (.iaload, 1) := by decide +kernel
theorem dX4_laySalt_55 : decode cX4_laySalt 55 = .ok (.invokevirtual 106, 3) := by decide +kernel
theorem dX4_laySalt_58 : decode cX4_laySalt 58 = .ok (.putfield 97, 3) := by decide +kernel
theorem dX4_laySalt_61 : decode cX4_laySalt 61 = .ok (.return_, 1) := by decide +kernel
theorem dX4_passHour_0 : decode cX4_passHour 0 = .ok (.aload_n 0, 1) := by decide +kernel
theorem dX4_passHour_1 : decode cX4_passHour 1 = .ok (.iconst 0, 1) := by decide +kernel
theorem dX4_passHour_2 : decode cX4_passHour 2 = .ok (.iload_n 1, 1) := by decide +kernel
theorem dX4_passHour_3 : decode cX4_passHour 3 = .ok (.invokevirtual 109, 3) := by decide +kernel
theorem dX4_passHour_6 : decode cX4_passHour 6 = .ok (.istore_n 2, 1) := by decide +kernel
theorem dX4_passHour_7 : decode cX4_passHour 7 = .ok (.iconst 0, 1) := by decide +kernel
theorem dX4_passHour_8 : decode cX4_passHour 8 = .ok (.istore_n 3, 1) := by decide +kernel
theorem dX4_passHour_9 : decode cX4_passHour 9 = .ok (.iload_n 3, 1) := by decide +kernel
theorem dX4_passHour_10 : decode cX4_passHour 10 = .ok (.aload_n 0, 1) := by decide +kernel
theorem dX4_passHour_11 : decode cX4_passHour 11 = .ok (.getfield 31, 3) := by decide +kernel
theorem dX4_passHour_14 : decode cX4_passHour 14 = .ok (.getfield 74, 3) := by decide +kernel
theorem dX4_passHour_17 : decode cX4_passHour 17 = .ok (.if_icmp .ge 34, 3) := by decide +kernel
theorem dX4_passHour_20 : decode cX4_passHour 20 = .ok (.aload_n 0, 1) := by decide +kernel
theorem dX4_passHour_21 : decode cX4_passHour 21 = .ok (.iload_n 2, 1) := by decide +kernel
theorem dX4_passHour_22 : decode cX4_passHour 22 = .ok (.aload_n 0, 1) := by decide +kernel
theorem dX4_passHour_23 : decode cX4_passHour 23 = .ok (.iload_n 3, 1) := by decide +kernel
theorem dX4_passHour_24 : decode cX4_passHour 24 = .ok (.invokevirtual 112, 3) := by decide +kernel
theorem dX4_passHour_27 : decode cX4_passHour 27 = .ok (.aload_n 0, 1) := by decide +kernel
theorem dX4_passHour_28 : decode cX4_passHour 28 = .ok (.iload_n 3, 1) := by decide +kernel
theorem dX4_passHour_29 : decode cX4_passHour 29 = .ok (.invokevirtual 116, 3) := by decide +kernel
theorem dX4_passHour_32 : decode cX4_passHour 32 = .ok (.invokevirtual 119, 3) := by decide +kernel
theorem dX4_passHour_35 : decode cX4_passHour 35 = .ok (.aload_n 0, 1) := by decide +kernel
theorem dX4_passHour_36 : decode cX4_passHour 36 = .ok (.aload_n 0, 1) := by decide +kernel
theorem dX4_passHour_37 : decode cX4_passHour 37 = .ok (.getfield 23, 3) := by decide +kernel
theorem dX4_passHour_40 : decode cX4_passHour 40 = .ok (.iload_n 3, 1) := by decide +kernel
theorem dX4_passHour_41 : decode cX4_passHour 41 = .ok (.aaload, 1) := by decide +kernel
theorem dX4_passHour_42 : decode cX4_passHour 42 = .ok (.invokevirtual 123, 3) := by decide +kernel
theorem dX4_passHour_45 : decode cX4_passHour 45 = .ok (.iinc 3 1, 3) := by decide +kernel
theorem dX4_passHour_48 : decode cX4_passHour 48 = .ok (.goto (-39), 3) := by decide +kernel
theorem dX4_passHour_51 : decode cX4_passHour 51 = .ok (.iconst 0, 1) := by decide +kernel
theorem dX4_passHour_52 : decode cX4_passHour 52 = .ok (.istore_n 3, 1) := by decide +kernel
theorem dX4_passHour_53 : decode cX4_passHour 53 = .ok (.iload_n 3, 1) := by decide +kernel
theorem dX4_passHour_54 : decode cX4_passHour 54 = .ok (.aload_n 0, 1) := by decide +kernel
theorem dX4_passHour_55 : decode cX4_passHour 55 = .ok (.getfield 31, 3) := by decide +kernel
theorem dX4_passHour_58 : decode cX4_passHour 58 = .ok (.getfield 64, 3) := by decide +kernel
theorem dX4_passHour_61 : decode cX4_passHour 61 = .ok (.if_icmp .ge 14, 3) := by decide +kernel
theorem dX4_passHour_64 : decode cX4_passHour 64 = .ok (.aload_n 0, 1) := by decide +kernel
theorem dX4_passHour_65 : decode cX4_passHour 65 = .ok (.iload_n 3, 1) := by decide +kernel
theorem dX4_passHour_66 : decode cX4_passHour 66 = .ok (.invokevirtual 126, 3) := by decide +kernel
theorem dX4_passHour_69 : decode cX4_passHour 69 = .ok (.iinc 3 1, 3) := by decide +kernel
theorem dX4_passHour_72 : decode cX4_passHour 72 = .ok (.goto (-19), 3) := by decide +kernel
theorem dX4_passHour_75 : decode cX4_passHour 75 = .ok (.aload_n 0, 1) := by decide +kernel
theorem dX4_passHour_76 : decode cX4_passHour 76 = .ok (.dup, 1) := by decide +kernel
theorem dX4_passHour_77 : decode cX4_passHour 77 = .ok (.getfield 39, 3) := by decide +kernel
theorem dX4_passHour_80 : decode cX4_passHour 80 = .ok (.iconst 1, 1) := by decide +kernel
theorem dX4_passHour_81 : decode cX4_passHour 81 = .ok (.iadd, 1) := by decide +kernel
theorem dX4_passHour_82 : decode cX4_passHour 82 = .ok (.putfield 39, 3) := by decide +kernel
theorem dX4_passHour_85 : decode cX4_passHour 85 = .ok (.return_, 1) := by decide +kernel
theorem dX4_stoveAt_0 : decode cX4_stoveAt 0 = .ok (.aload_n 0, 1) := by decide +kernel
theorem dX4_stoveAt_1 : decode cX4_stoveAt 1 = .ok (.getfield 31, 3) := by decide +kernel
theorem dX4_stoveAt_4 : decode cX4_stoveAt 4 = .ok (.getfield 103, 3) := by decide +kernel
theorem dX4_stoveAt_7 : decode cX4_stoveAt 7 = .ok (.iload_n 1, 1) := by decide +kernel
theorem dX4_stoveAt_8 : decode cX4_stoveAt 8 = .ok (.iaload, 1) := by decide +kernel
theorem dX4_stoveAt_9 : decode cX4_stoveAt 9 = .ok (.istore_n 2, 1) := by decide +kernel
theorem dX4_stoveAt_10 : decode cX4_stoveAt 10 = .ok (.aload_n 0, 1) := by decide +kernel
theorem dX4_stoveAt_11 : decode cX4_stoveAt 11 = .ok (.getfield 9, 3) := by decide +kernel
theorem dX4_stoveAt_14 : decode cX4_stoveAt 14 = .ok (.aload_n 0, 1) := by decide +kernel
theorem dX4_stoveAt_15 : decode cX4_stoveAt 15 = .ok (.getfield 31, 3) := by decide +kernel
theorem dX4_stoveAt_18 : decode cX4_stoveAt 18 = .ok (.getfield 100, 3) := by decide +kernel
theorem dX4_stoveAt_21 : decode cX4_stoveAt 21 = .ok (.iload_n 1, 1) := by decide +kernel
theorem dX4_stoveAt_22 : decode cX4_stoveAt 22 = .ok (.iaload, 1) := by decide +kernel
theorem dX4_stoveAt_23 : decode cX4_stoveAt 23 = .ok (.iaload, 1) := by decide +kernel
theorem dX4_stoveAt_24 : decode cX4_stoveAt 24 = .ok (.iload_n 2, 1) := by decide +kernel
theorem dX4_stoveAt_25 : decode cX4_stoveAt 25 = .ok (.iconst (-1), 1) := by decide +kernel
theorem dX4_stoveAt_26 : decode cX4_stoveAt 26 = .ok (.if_icmp .ne 7, 3) := by decide +kernel
theorem dX4_stoveAt_29 : decode cX4_stoveAt 29 = .ok (.iconst 0, 1) := by decide +kernel
theorem dX4_stoveAt_30 : decode cX4_stoveAt 30 = .ok (.goto 9, 3) := by decide +kernel
theorem dX4_stoveAt_33 : decode cX4_stoveAt 33 = .ok (.aload_n 0, 1) := by decide +kernel
theorem dX4_stoveAt_34 : decode cX4_stoveAt 34 = .ok (.getfield 9, 3) := by decide +kernel
theorem dX4_stoveAt_37 : decode cX4_stoveAt 37 = .ok (.iload_n 2, 1) := by decide +kernel
theorem dX4_stoveAt_38 : decode cX4_stoveAt 38 = .ok (.iaload, 1) := by decide +kernel
theorem dX4_stoveAt_39 : decode cX4_stoveAt 39 = .ok (.iadd, 1) := by decide +kernel
theorem dX4_stoveAt_40 : decode cX4_stoveAt 40 = .ok (.ireturn, 1) := by decide +kernel
theorem dX4_breathAt_0 : decode cX4_breathAt 0 = .ok (.aload_n 0, 1) := by decide +kernel
theorem dX4_breathAt_1 : decode cX4_breathAt 1 = .ok (.getfield 31, 3) := by decide +kernel
theorem dX4_breathAt_4 : decode cX4_breathAt 4 = .ok (.getfield 100, 3) := by decide +kernel
theorem dX4_breathAt_7 : decode cX4_breathAt 7 = .ok (.iload_n 1, 1) := by decide +kernel
theorem dX4_breathAt_8 : decode cX4_breathAt 8 = .ok (.iaload, 1) := by decide +kernel
theorem dX4_breathAt_9 : decode cX4_breathAt 9 = .ok (.istore_n 2, 1) := by decide +kernel
theorem dX4_breathAt_10 : decode cX4_breathAt 10 = .ok (.aload_n 0, 1) := by decide +kernel
theorem dX4_breathAt_11 : decode cX4_breathAt 11 = .ok (.getfield 31, 3) := by decide +kernel
theorem dX4_breathAt_14 : decode cX4_breathAt 14 = .ok (.getfield 103, 3) := by decide +kernel
theorem dX4_breathAt_17 : decode cX4_breathAt 17 = .ok (.iload_n 1, 1) := by decide +kernel
theorem dX4_breathAt_18 : decode cX4_breathAt 18 = .ok (.iaload, 1) := by decide +kernel
theorem dX4_breathAt_19 : decode cX4_breathAt 19 = .ok (.istore_n 3, 1) := by decide +kernel
theorem dX4_breathAt_20 : decode cX4_breathAt 20 = .ok (.aload_n 0, 1) := by decide +kernel
theorem dX4_breathAt_21 : decode cX4_breathAt 21 = .ok (.iload_n 2, 1) := by decide +kernel
theorem dX4_breathAt_22 : decode cX4_breathAt 22 = .ok (.iload_n 3, 1) := by decide +kernel
theorem dX4_breathAt_23 : decode cX4_breathAt 23 = .ok (.invokevirtual 106, 3) := by decide +kernel
theorem dX4_breathAt_26 : decode cX4_breathAt 26 = .ok (.invokestatic 129, 3) := by decide +kernel
theorem dX4_breathAt_29 : decode cX4_breathAt 29 = .ok (.aload_n 0, 1) := by decide +kernel
theorem dX4_breathAt_30 : decode cX4_breathAt 30 = .ok (.iload_n 2, 1) := by decide +kernel
theorem dX4_breathAt_31 : decode cX4_breathAt 31 = .ok (.invokevirtual 134, 3) := by decide +kernel
theorem dX4_breathAt_34 : decode cX4_breathAt 34 = .ok (.iadd, 1) := by decide +kernel
theorem dX4_breathAt_35 : decode cX4_breathAt 35 = .ok (.aload_n 0, 1) := by decide +kernel
theorem dX4_breathAt_36 : decode cX4_breathAt 36 = .ok (.iload_n 3, 1) := by decide +kernel
theorem dX4_breathAt_37 : decode cX4_breathAt 37 = .ok (.invokevirtual 134, 3) := by decide +kernel
theorem dX4_breathAt_40 : decode cX4_breathAt 40 = .ok (.iadd, 1) := by decide +kernel
theorem dX4_breathAt_41 : decode cX4_breathAt 41 = .ok (.ireturn, 1) := by decide +kernel
theorem dX4_setAround_0 : decode cX4_setAround 0 = .ok (.aload_n 0, 1) := by decide +kernel
theorem dX4_setAround_1 : decode cX4_setAround 1 = .ok (.getfield 27, 3) := by decide +kernel
theorem dX4_setAround_4 : decode cX4_setAround 4 = .ok (.iconst 3, 1) := by decide +kernel
theorem dX4_setAround_5 : decode cX4_setAround 5 = .ok (.iload_n 1, 1) := by decide +kernel
theorem dX4_setAround_6 : decode cX4_setAround 6 = .ok (.iastore, 1) := by decide +kernel
theorem dX4_setAround_7 : decode cX4_setAround 7 = .ok (.aload_n 0, 1) := by decide +kernel
theorem dX4_setAround_8 : decode cX4_setAround 8 = .ok (.getfield 27, 3) := by decide +kernel
theorem dX4_setAround_11 : decode cX4_setAround 11 = .ok (.iconst 4, 1) := by decide +kernel
theorem dX4_setAround_12 : decode cX4_setAround 12 = .ok (.iload_n 2, 1) := by decide +kernel
theorem dX4_setAround_13 : decode cX4_setAround 13 = .ok (.iastore, 1) := by decide +kernel
theorem dX4_setAround_14 : decode cX4_setAround 14 = .ok (.aload_n 0, 1) := by decide +kernel
theorem dX4_setAround_15 : decode cX4_setAround 15 = .ok (.getfield 27, 3) := by decide +kernel
theorem dX4_setAround_18 : decode cX4_setAround 18 = .ok (.bipush 6, 2) := by decide +kernel
theorem dX4_setAround_20 : decode cX4_setAround 20 = .ok (.iload_n 3, 1) := by decide +kernel
theorem dX4_setAround_21 : decode cX4_setAround 21 = .ok (.iastore, 1) := by decide +kernel
theorem dX4_setAround_22 : decode cX4_setAround 22 = .ok (.return_, 1) := by decide +kernel
theorem dX4_iceBehind_0 : decode cX4_iceBehind 0 = .ok (.aload_n 0, 1) := by decide +kernel
theorem dX4_iceBehind_1 : decode cX4_iceBehind 1 = .ok (.getfield 31, 3) := by decide +kernel
theorem dX4_iceBehind_4 : decode cX4_iceBehind 4 = .ok (.getfield 137, 3) := by decide +kernel
theorem dX4_iceBehind_7 : decode cX4_iceBehind 7 = .ok (.ifnonnull 34, 3) := by decide +kernel
theorem dX4_iceBehind_10 : decode cX4_iceBehind 10 = .ok (.aload_n 0, 1) := by decide +kernel
theorem dX4_iceBehind_11 : decode cX4_iceBehind 11 = .ok (.getfield 27, 3) := by decide +kernel
theorem dX4_iceBehind_14 : decode cX4_iceBehind 14 = .ok (.iconst 3, 1) := by decide +kernel
theorem dX4_iceBehind_15 : decode cX4_iceBehind 15 = .ok (.iaload, 1) := by decide +kernel
theorem dX4_iceBehind_16 : decode cX4_iceBehind 16 = .ok (.ineg, 1) := by decide +kernel
theorem dX4_iceBehind_17 : decode cX4_iceBehind 17 = .ok (.aload_n 0, 1) := by decide +kernel
theorem dX4_iceBehind_18 : decode cX4_iceBehind 18 = .ok (.getfield 27, 3) := by decide +kernel
theorem dX4_iceBehind_21 : decode cX4_iceBehind 21 = .ok (.iconst 4, 1) := by decide +kernel
theorem dX4_iceBehind_22 : decode cX4_iceBehind 22 = .ok (.iaload, 1) := by decide +kernel
theorem dX4_iceBehind_23 : decode cX4_iceBehind 23 = .ok (.isub, 1) := by decide +kernel
theorem dX4_iceBehind_24 : decode cX4_iceBehind 24 = .ok (.iload_n 1, 1) := by decide +kernel
theorem dX4_iceBehind_25 : decode cX4_iceBehind 25 = .ok (.iconst 3, 1) := by decide +kernel
theorem dX4_iceBehind_26 : decode cX4_iceBehind 26 = .ok (.imul, 1) := by decide +kernel
theorem dX4_iceBehind_27 : decode cX4_iceBehind 27 = .ok (.isub, 1) := by decide +kernel
theorem dX4_iceBehind_28 : decode cX4_iceBehind 28 = .ok (.aload_n 0, 1) := by decide +kernel
theorem dX4_iceBehind_29 : decode cX4_iceBehind 29 = .ok (.getfield 27, 3) := by decide +kernel
theorem dX4_iceBehind_32 : decode cX4_iceBehind 32 = .ok (.bipush 6, 2) := by decide +kernel
theorem dX4_iceBehind_34 : decode cX4_iceBehind 34 = .ok (.iaload, 1) := by decide +kernel
theorem dX4_iceBehind_35 : decode cX4_iceBehind 35 = .ok (.isub, 1) := by decide +kernel
theorem dX4_iceBehind_36 : decode cX4_iceBehind 36 = .ok (.istore 4, 2) := by decide +kernel
theorem dX4_iceBehind_38 : decode cX4_iceBehind 38 = .ok (.goto 42, 3) := by decide +kernel
theorem dX4_iceBehind_41 : decode cX4_iceBehind 41 = .ok (.aload_n 0, 1) := by decide +kernel
theorem dX4_iceBehind_42 : decode cX4_iceBehind 42 = .ok (.getfield 27, 3) := by decide +kernel
theorem dX4_iceBehind_45 : decode cX4_iceBehind 45 = .ok (.iconst 5, 1) := by decide +kernel
theorem dX4_iceBehind_46 : decode cX4_iceBehind 46 = .ok (.iload_n 1, 1) := by decide +kernel
theorem dX4_iceBehind_47 : decode cX4_iceBehind 47 = .ok (.iastore, 1) := by decide +kernel
theorem dX4_iceBehind_48 : decode cX4_iceBehind 48 = .ok (.aload_n 0, 1) := by decide +kernel
theorem dX4_iceBehind_49 : decode cX4_iceBehind 49 = .ok (.getfield 27, 3) := by decide +kernel
theorem dX4_iceBehind_52 : decode cX4_iceBehind 52 = .ok (.bipush 7, 2) := by decide +kernel
theorem dX4_iceBehind_54 : decode cX4_iceBehind 54 = .ok (.iload_n 2, 1) := by decide +kernel
theorem dX4_iceBehind_55 : decode cX4_iceBehind 55 = .ok (.iastore, 1) := by decide +kernel
theorem dX4_iceBehind_56 : decode cX4_iceBehind 56 = .ok (.aload_n 0, 1) := by decide +kernel
theorem dX4_iceBehind_57 : decode cX4_iceBehind 57 = .ok (.getfield 27, 3) := by decide +kernel
theorem dX4_iceBehind_60 : decode cX4_iceBehind 60 = .ok (.bipush 8, 2) := by decide +kernel
theorem dX4_iceBehind_62 : decode cX4_iceBehind 62 = .ok (.iload_n 3, 1) := by decide +kernel
theorem dX4_iceBehind_63 : decode cX4_iceBehind 63 = .ok (.iastore, 1) := by decide +kernel
theorem dX4_iceBehind_64 : decode cX4_iceBehind 64 = .ok (.aload_n 0, 1) := by decide +kernel
theorem dX4_iceBehind_65 : decode cX4_iceBehind 65 = .ok (.getfield 31, 3) := by decide +kernel
theorem dX4_iceBehind_68 : decode cX4_iceBehind 68 = .ok (.getfield 137, 3) := by decide +kernel
theorem dX4_iceBehind_71 : decode cX4_iceBehind 71 = .ok (.aload_n 0, 1) := by decide +kernel
theorem dX4_iceBehind_72 : decode cX4_iceBehind 72 = .ok (.getfield 27, 3) := by decide +kernel
theorem dX4_iceBehind_75 : decode cX4_iceBehind 75 = .ok (.invokevirtual 85, 3) := by decide +kernel
theorem dX4_iceBehind_78 : decode cX4_iceBehind 78 = .ok (.istore 4, 2) := by decide +kernel
theorem dX4_iceBehind_80 : decode cX4_iceBehind 80 = .ok (.bipush 20, 2) := by decide +kernel
theorem dX4_iceBehind_82 : decode cX4_iceBehind 82 = .ok (.iload 4, 2) := by decide +kernel
theorem dX4_iceBehind_84 : decode cX4_iceBehind 84 = .ok (.invokestatic 91, 3) := by decide +kernel
theorem dX4_iceBehind_87 : decode cX4_iceBehind 87 = .ok (.istore 4, 2) := by decide +kernel
theorem dX4_iceBehind_89 : decode cX4_iceBehind 89 = .ok (.iload 4, 2) := by decide +kernel
theorem dX4_iceBehind_91 : decode cX4_iceBehind 91 = .ok (.ifCond .lt 14, 3) := by decide +kernel
theorem dX4_iceBehind_94 : decode cX4_iceBehind 94 = .ok (.iload_n 2, 1) := by decide +kernel
theorem dX4_iceBehind_95 : decode cX4_iceBehind 95 = .ok (.iload 4, 2) := by decide +kernel
theorem dX4_iceBehind_97 : decode cX4_iceBehind 97 = .ok (.iload_n 3, 1) := by decide +kernel
theorem dX4_iceBehind_98 : decode cX4_iceBehind 98 = .ok (.invokestatic 140, 3) := by decide +kernel
theorem dX4_iceBehind_101 : decode cX4_iceBehind 101 = .ok (.iadd, 1) := by decide +kernel
theorem dX4_iceBehind_102 : decode cX4_iceBehind 102 = .ok (.goto 12, 3) := by decide +kernel
theorem dX4_iceBehind_105 : decode cX4_iceBehind 105 = .ok (.iload_n 2, 1) := by decide +kernel
theorem dX4_iceBehind_106 : decode cX4_iceBehind 106 = .ok (.iload 4, 2) := by decide +kernel
theorem dX4_iceBehind_108 : decode cX4_iceBehind 108 = .ok (.ineg, 1) := by decide +kernel
theorem dX4_iceBehind_109 : decode cX4_iceBehind 109 = .ok (.iload_n 2, 1) := by decide +kernel
theorem dX4_iceBehind_110 : decode cX4_iceBehind 110 = .ok (.invokestatic 140, 3) := by decide +kernel
theorem dX4_iceBehind_113 : decode cX4_iceBehind 113 = .ok (.isub, 1) := by decide +kernel
theorem dX4_iceBehind_114 : decode cX4_iceBehind 114 = .ok (.ireturn, 1) := by decide +kernel
theorem dX4_freeze_0 : decode cX4_freeze 0 = .ok (.aload_n 1, 1) := by decide +kernel
theorem dX4_freeze_1 : decode cX4_freeze 1 = .ok (.invokevirtual 145, 3) := by decide +kernel
theorem dX4_freeze_4 : decode cX4_freeze 4 = .ok (.istore_n 2, 1) := by decide +kernel
theorem dX4_freeze_5 : decode cX4_freeze 5 = .ok (.aload_n 1, 1) := by decide +kernel
theorem dX4_freeze_6 : decode cX4_freeze 6 = .ok (.getfield 94, 3) := by decide +kernel
theorem dX4_freeze_9 : decode cX4_freeze 9 = .ok (.ifCond .ne 18, 3) := by decide +kernel
theorem dX4_freeze_12 : decode cX4_freeze 12 = .ok (.aload_n 1, 1) := by decide +kernel
theorem dX4_freeze_13 : decode cX4_freeze 13 = .ok (.getfield 149, 3) := by decide +kernel
theorem dX4_freeze_16 : decode cX4_freeze 16 = .ok (.aload_n 1, 1) := by decide +kernel
theorem dX4_freeze_17 : decode cX4_freeze 17 = .ok (.getfield 152, 3) := by decide +kernel
theorem dX4_freeze_20 : decode cX4_freeze 20 = .ok (.if_icmp .ne 7, 3) := by decide +kernel
theorem dX4_freeze_23 : decode cX4_freeze 23 = .ok (.iconst 1, 1) := by decide +kernel
theorem dX4_freeze_24 : decode cX4_freeze 24 = .ok (.goto 4, 3) := by decide +kernel
theorem dX4_freeze_27 : decode cX4_freeze 27 = .ok (.iconst 0, 1) := by decide +kernel
theorem dX4_freeze_28 : decode cX4_freeze 28 = .ok (.istore_n 3, 1) := by decide +kernel
theorem dX4_freeze_29 : decode cX4_freeze 29 = .ok (.aload_n 0, 1) := by decide +kernel
theorem dX4_freeze_30 : decode cX4_freeze 30 = .ok (.aload_n 1, 1) := by decide +kernel
theorem dX4_freeze_31 : decode cX4_freeze 31 = .ok (.getfield 94, 3) := by decide +kernel
theorem dX4_freeze_34 : decode cX4_freeze 34 = .ok (.aload_n 1, 1) := by decide +kernel
theorem dX4_freeze_35 : decode cX4_freeze 35 = .ok (.getfield 152, 3) := by decide +kernel
theorem dX4_freeze_38 : decode cX4_freeze 38 = .ok (.aload_n 1, 1) := by decide +kernel
theorem dX4_freeze_39 : decode cX4_freeze 39 = .ok (.getfield 154, 3) := by decide +kernel
theorem dX4_freeze_42 : decode cX4_freeze 42 = .ok (.invokevirtual 157, 3) := by decide +kernel
theorem dX4_freeze_45 : decode cX4_freeze 45 = .ok (.istore 4, 2) := by decide +kernel
theorem dX4_freeze_47 : decode cX4_freeze 47 = .ok (.aload_n 1, 1) := by decide +kernel
theorem dX4_freeze_48 : decode cX4_freeze 48 = .ok (.iload_n 3, 1) := by decide +kernel
theorem dX4_freeze_49 : decode cX4_freeze 49 = .ok (.ifCond .eq 8, 3) := by decide +kernel
theorem dX4_freeze_52 : decode cX4_freeze 52 = .ok (.iload 4, 2) := by decide +kernel
theorem dX4_freeze_54 : decode cX4_freeze 54 = .ok (.goto 18, 3) := by decide +kernel
theorem dX4_freeze_57 : decode cX4_freeze 57 = .ok (.aload_n 0, 1) := by decide +kernel
theorem dX4_freeze_58 : decode cX4_freeze 58 = .ok (.iconst 0, 1) := by decide +kernel
theorem dX4_freeze_59 : decode cX4_freeze 59 = .ok (.aload_n 1, 1) := by decide +kernel
theorem dX4_freeze_60 : decode cX4_freeze 60 = .ok (.getfield 149, 3) := by decide +kernel
theorem dX4_freeze_63 : decode cX4_freeze 63 = .ok (.iload_n 2, 1) := by decide +kernel
theorem dX4_freeze_64 : decode cX4_freeze 64 = .ok (.aload_n 1, 1) := by decide +kernel
theorem dX4_freeze_65 : decode cX4_freeze 65 = .ok (.getfield 149, 3) := by decide +kernel
theorem dX4_freeze_68 : decode cX4_freeze 68 = .ok (.isub, 1) := by decide +kernel
theorem dX4_freeze_69 : decode cX4_freeze 69 = .ok (.invokevirtual 157, 3) := by decide +kernel
theorem dX4_freeze_72 : decode cX4_freeze 72 = .ok (.putfield 149, 3) := by decide +kernel
theorem dX4_freeze_75 : decode cX4_freeze 75 = .ok (.aload_n 1, 1) := by decide +kernel
theorem dX4_freeze_76 : decode cX4_freeze 76 = .ok (.iload 4, 2) := by decide +kernel
theorem dX4_freeze_78 : decode cX4_freeze 78 = .ok (.putfield 152, 3) := by decide +kernel
theorem dX4_freeze_81 : decode cX4_freeze 81 = .ok (.aload_n 1, 1) := by decide +kernel
theorem dX4_freeze_82 : decode cX4_freeze 82 = .ok (.iload_n 2, 1) := by decide +kernel
theorem dX4_freeze_83 : decode cX4_freeze 83 = .ok (.iload 4, 2) := by decide +kernel
theorem dX4_freeze_85 : decode cX4_freeze 85 = .ok (.isub, 1) := by decide +kernel
theorem dX4_freeze_86 : decode cX4_freeze 86 = .ok (.putfield 154, 3) := by decide +kernel
theorem dX4_freeze_89 : decode cX4_freeze 89 = .ok (.aload_n 1, 1) := by decide +kernel
theorem dX4_freeze_90 : decode cX4_freeze 90 = .ok (.aload_n 1, 1) := by decide +kernel
theorem dX4_freeze_91 : decode cX4_freeze 91 = .ok (.iconst 1, 1) := by decide +kernel
theorem dX4_freeze_92 : decode cX4_freeze 92 = .ok (.invokevirtual 161, 3) := by decide +kernel
theorem dX4_freeze_95 : decode cX4_freeze 95 = .ok (.putfield 94, 3) := by decide +kernel
theorem dX4_freeze_98 : decode cX4_freeze 98 = .ok (.return_, 1) := by decide +kernel
theorem dX4_letGo_0 : decode cX4_letGo 0 = .ok (.aload_n 0, 1) := by decide +kernel
theorem dX4_letGo_1 : decode cX4_letGo 1 = .ok (.getfield 15, 3) := by decide +kernel
theorem dX4_letGo_4 : decode cX4_letGo 4 = .ok (.iload_n 1, 1) := by decide +kernel
theorem dX4_letGo_5 : decode cX4_letGo 5 = .ok (.iaload, 1) := by decide +kernel
theorem dX4_letGo_6 : decode cX4_letGo 6 = .ok (.istore_n 2, 1) := by decide +kernel
theorem dX4_letGo_7 : decode cX4_letGo 7 = .ok (.iload_n 2, 1) := by decide +kernel
theorem dX4_letGo_8 : decode cX4_letGo 8 = .ok (.iconst (-1), 1) := by decide +kernel
theorem dX4_letGo_9 : decode cX4_letGo 9 = .ok (.if_icmp .eq 30, 3) := by decide +kernel
theorem dX4_letGo_12 : decode cX4_letGo 12 = .ok (.aload_n 0, 1) := by decide +kernel
theorem dX4_letGo_13 : decode cX4_letGo 13 = .ok (.getfield 39, 3) := by decide +kernel
theorem dX4_letGo_16 : decode cX4_letGo 16 = .ok (.bipush 24, 2) := by decide +kernel
theorem dX4_letGo_18 : decode cX4_letGo 18 = .ok (.idiv, 1) := by decide +kernel
theorem dX4_letGo_19 : decode cX4_letGo 19 = .ok (.aload_n 0, 1) := by decide +kernel
theorem dX4_letGo_20 : decode cX4_letGo 20 = .ok (.getfield 31, 3) := by decide +kernel
theorem dX4_letGo_23 : decode cX4_letGo 23 = .ok (.getfield 164, 3) := by decide +kernel
theorem dX4_letGo_26 : decode cX4_letGo 26 = .ok (.iload_n 1, 1) := by decide +kernel
theorem dX4_letGo_27 : decode cX4_letGo 27 = .ok (.iaload, 1) := by decide +kernel
theorem dX4_letGo_28 : decode cX4_letGo 28 = .ok (.if_icmp .lt 11, 3) := by decide +kernel
theorem dX4_letGo_31 : decode cX4_letGo 31 = .ok (.aload_n 0, 1) := by decide +kernel
theorem dX4_letGo_32 : decode cX4_letGo 32 = .ok (.iload_n 2, 1) := by decide +kernel
theorem dX4_letGo_33 : decode cX4_letGo 33 = .ok (.invokevirtual 134, 3) := by decide +kernel
theorem dX4_letGo_36 : decode cX4_letGo 36 = .ok (.ifCond .le 4, 3) := by decide +kernel
theorem dX4_letGo_39 : decode cX4_letGo 39 = .ok (.return_, 1) := by decide +kernel
theorem dX4_letGo_40 : decode cX4_letGo 40 = .ok (.iload_n 2, 1) := by decide +kernel
theorem dX4_letGo_41 : decode cX4_letGo 41 = .ok (.istore_n 3, 1) := by decide +kernel
theorem dX4_letGo_42 : decode cX4_letGo 42 = .ok (.iconst 0, 1) := by decide +kernel
theorem dX4_letGo_43 : decode cX4_letGo 43 = .ok (.istore 4, 2) := by decide +kernel
theorem dX4_letGo_45 : decode cX4_letGo 45 = .ok (.iload 4, 2) := by decide +kernel
theorem dX4_letGo_47 : decode cX4_letGo 47 = .ok (.aload_n 0, 1) := by decide +kernel
theorem dX4_letGo_48 : decode cX4_letGo 48 = .ok (.getfield 31, 3) := by decide +kernel
theorem dX4_letGo_51 : decode cX4_letGo 51 = .ok (.getfield 74, 3) := by decide +kernel
theorem dX4_letGo_54 : decode cX4_letGo 54 = .ok (.if_icmp .ge 84, 3) := by decide +kernel
theorem dX4_letGo_57 : decode cX4_letGo 57 = .ok (.aload_n 0, 1) := by decide +kernel
theorem dX4_letGo_58 : decode cX4_letGo 58 = .ok (.getfield 31, 3) := by decide +kernel
theorem dX4_letGo_61 : decode cX4_letGo 61 = .ok (.iload 4, 2) := by decide +kernel
theorem dX4_letGo_63 : decode cX4_letGo 63 = .ok (.iload_n 2, 1) := by decide +kernel
theorem dX4_letGo_64 : decode cX4_letGo 64 = .ok (.invokevirtual 167, 3) := by decide +kernel
theorem dX4_letGo_67 : decode cX4_letGo 67 = .ok (.istore 5, 2) := by decide +kernel
theorem dX4_letGo_69 : decode cX4_letGo 69 = .ok (.iload 5, 2) := by decide +kernel
theorem dX4_letGo_71 : decode cX4_letGo 71 = .ok (.bipush (-2), 2) := by decide +kernel
theorem dX4_letGo_73 : decode cX4_letGo 73 = .ok (.if_icmp .eq 29, 3) := by decide +kernel
theorem dX4_letGo_76 : decode cX4_letGo 76 = .ok (.iload 4, 2) := by decide +kernel
theorem dX4_letGo_78 : decode cX4_letGo 78 = .ok (.aload_n 0, 1) := by decide +kernel
theorem dX4_letGo_79 : decode cX4_letGo 79 = .ok (.getfield 35, 3) := by decide +kernel
theorem dX4_letGo_82 : decode cX4_letGo 82 = .ok (.if_icmp .eq 20, 3) := by decide +kernel
theorem dX4_letGo_85 : decode cX4_letGo 85 = .ok (.aload_n 0, 1) := by decide +kernel
theorem dX4_letGo_86 : decode cX4_letGo 86 = .ok (.getfield 23, 3) := by decide +kernel
theorem dX4_letGo_89 : decode cX4_letGo 89 = .ok (.iload 4, 2) := by decide +kernel
theorem dX4_letGo_91 : decode cX4_letGo 91 = .ok (.aaload, 1) := by decide +kernel
theorem dX4_letGo_92 : decode cX4_letGo 92 = .ok (.invokevirtual 77, 3) := by decide +kernel
theorem dX4_letGo_95 : decode cX4_letGo 95 = .ok (.ifCond .eq 7, 3) := by decide +kernel
theorem dX4_letGo_98 : decode cX4_letGo 98 = .ok (.iconst 1, 1) := by decide +kernel
theorem dX4_letGo_99 : decode cX4_letGo 99 = .ok (.goto 4, 3) := by decide +kernel
theorem dX4_letGo_102 : decode cX4_letGo 102 = .ok (.iconst 0, 1) := by decide +kernel
theorem dX4_letGo_103 : decode cX4_letGo 103 = .ok (.istore 6, 2) := by decide +kernel
theorem dX4_letGo_105 : decode cX4_letGo 105 = .ok (.iload 6, 2) := by decide +kernel
theorem dX4_letGo_107 : decode cX4_letGo 107 = .ok (.ifCond .eq 25, 3) := by decide +kernel
theorem dX4_letGo_110 : decode cX4_letGo 110 = .ok (.aload_n 0, 1) := by decide +kernel
theorem dX4_letGo_111 : decode cX4_letGo 111 = .ok (.iload 5, 2) := by decide +kernel
theorem dX4_letGo_113 : decode cX4_letGo 113 = .ok (.iload_n 3, 1) := by decide +kernel
theorem dX4_letGo_114 : decode cX4_letGo 114 = .ok (.invokevirtual 170, 3) := by decide +kernel
theorem dX4_letGo_117 : decode cX4_letGo 117 = .ok (.ifCond .eq 15, 3) := by decide +kernel
theorem dX4_letGo_120 : decode cX4_letGo 120 = .ok (.aload_n 0, 1) := by decide +kernel
theorem dX4_letGo_121 : decode cX4_letGo 121 = .ok (.iload 5, 2) := by decide +kernel
theorem dX4_letGo_123 : decode cX4_letGo 123 = .ok (.invokevirtual 134, 3) := by decide +kernel
theorem dX4_letGo_126 : decode cX4_letGo 126 = .ok (.ifCond .ne 6, 3) := by decide +kernel
theorem dX4_letGo_129 : decode cX4_letGo 129 = .ok (.iload 5, 2) := by decide +kernel
theorem dX4_letGo_131 : decode cX4_letGo 131 = .ok (.istore_n 3, 1) := by decide +kernel
theorem dX4_letGo_132 : decode cX4_letGo 132 = .ok (.iinc 4 1, 3) := by decide +kernel
theorem dX4_letGo_135 : decode cX4_letGo 135 = .ok (.goto (-90), 3) := by decide +kernel
theorem dX4_letGo_138 : decode cX4_letGo 138 = .ok (.aload_n 0, 1) := by decide +kernel
theorem dX4_letGo_139 : decode cX4_letGo 139 = .ok (.getfield 15, 3) := by decide +kernel
theorem dX4_letGo_142 : decode cX4_letGo 142 = .ok (.iload_n 1, 1) := by decide +kernel
theorem dX4_letGo_143 : decode cX4_letGo 143 = .ok (.iload_n 3, 1) := by decide +kernel
theorem dX4_letGo_144 : decode cX4_letGo 144 = .ok (.iastore, 1) := by decide +kernel
theorem dX4_letGo_145 : decode cX4_letGo 145 = .ok (.return_, 1) := by decide +kernel
theorem dX4_isNearer_0 : decode cX4_isNearer 0 = .ok (.aload_n 0, 1) := by decide +kernel
theorem dX4_isNearer_1 : decode cX4_isNearer 1 = .ok (.getfield 31, 3) := by decide +kernel
theorem dX4_isNearer_4 : decode cX4_isNearer 4 = .ok (.iload_n 1, 1) := by decide +kernel
theorem dX4_isNearer_5 : decode cX4_isNearer 5 = .ok (.invokevirtual 174, 3) := by decide +kernel
theorem dX4_isNearer_8 : decode cX4_isNearer 8 = .ok (.istore_n 3, 1) := by decide +kernel
theorem dX4_isNearer_9 : decode cX4_isNearer 9 = .ok (.iload_n 3, 1) := by decide +kernel
theorem dX4_isNearer_10 : decode cX4_isNearer 10 = .ok (.iconst (-1), 1) := by decide +kernel
theorem dX4_isNearer_11 : decode cX4_isNearer 11 = .ok (.if_icmp .eq 19, 3) := by decide +kernel
theorem dX4_isNearer_14 : decode cX4_isNearer 14 = .ok (.iload_n 3, 1) := by decide +kernel
theorem dX4_isNearer_15 : decode cX4_isNearer 15 = .ok (.aload_n 0, 1) := by decide +kernel
theorem dX4_isNearer_16 : decode cX4_isNearer 16 = .ok (.getfield 31, 3) := by decide +kernel
theorem dX4_isNearer_19 : decode cX4_isNearer 19 = .ok (.iload_n 2, 1) := by decide +kernel
theorem dX4_isNearer_20 : decode cX4_isNearer 20 = .ok (.invokevirtual 174, 3) := by decide +kernel
theorem dX4_isNearer_23 : decode cX4_isNearer 23 = .ok (.if_icmp .ge 7, 3) := by decide +kernel
theorem dX4_isNearer_26 : decode cX4_isNearer 26 = .ok (.iconst 1, 1) := by decide +kernel
theorem dX4_isNearer_27 : decode cX4_isNearer 27 = .ok (.goto 4, 3) := by decide +kernel
theorem dX4_isNearer_30 : decode cX4_isNearer 30 = .ok (.iconst 0, 1) := by decide +kernel
theorem dX4_isNearer_31 : decode cX4_isNearer 31 = .ok (.ireturn, 1) := by decide +kernel
theorem dX4_atMost_0 : decode cX4_atMost 0 = .ok (.iload_n 0, 1) := by decide +kernel
theorem dX4_atMost_1 : decode cX4_atMost 1 = .ok (.ineg, 1) := by decide +kernel
theorem dX4_atMost_2 : decode cX4_atMost 2 = .ok (.iload_n 0, 1) := by decide +kernel
theorem dX4_atMost_3 : decode cX4_atMost 3 = .ok (.iload_n 1, 1) := by decide +kernel
theorem dX4_atMost_4 : decode cX4_atMost 4 = .ok (.invokestatic 140, 3) := by decide +kernel
theorem dX4_atMost_7 : decode cX4_atMost 7 = .ok (.invokestatic 177, 3) := by decide +kernel
theorem dX4_atMost_10 : decode cX4_atMost 10 = .ok (.ireturn, 1) := by decide +kernel
theorem dX5_init_0 : decode cX5_init 0 = .ok (.aload_n 0, 1) := by decide +kernel
theorem dX5_init_1 : decode cX5_init 1 = .ok (.invokespecial 3, 3) := by decide +kernel
theorem dX5_init_4 : decode cX5_init 4 = .ok (.aload_n 0, 1) := by decide +kernel
theorem dX5_init_5 : decode cX5_init 5 = .ok (.new 9, 3) := by decide +kernel
theorem dX5_init_8 : decode cX5_init 8 = .ok (.dup, 1) := by decide +kernel
theorem dX5_init_9 : decode cX5_init 9 = .ok (.invokespecial 11, 3) := by decide +kernel
theorem dX5_init_12 : decode cX5_init 12 = .ok (.putfield 12, 3) := by decide +kernel
theorem dX5_init_15 : decode cX5_init 15 = .ok (.aload_n 0, 1) := by decide +kernel
theorem dX5_init_16 : decode cX5_init 16 = .ok (.bipush 8, 2) := by decide +kernel
theorem dX5_init_18 : decode cX5_init 18 = .ok (.newarray .long, 2) := by decide +kernel
theorem dX5_init_20 : decode cX5_init 20 = .ok (.putfield 18, 3) := by decide +kernel
theorem dX5_init_23 : decode cX5_init 23 = .ok (.aload_n 0, 1) := by decide +kernel
theorem dX5_init_24 : decode cX5_init 24 = .ok (.bipush 6, 2) := by decide +kernel
theorem dX5_init_26 : decode cX5_init 26 = .ok (.newarray .long, 2) := by decide +kernel
theorem dX5_init_28 : decode cX5_init 28 = .ok (.putfield 22, 3) := by decide +kernel
theorem dX5_init_31 : decode cX5_init 31 = .ok (.aload_n 0, 1) := by decide +kernel
theorem dX5_init_32 : decode cX5_init 32 = .ok (.new 25, 3) := by decide +kernel
theorem dX5_init_35 : decode cX5_init 35 = .ok (.dup, 1) := by decide +kernel
theorem dX5_init_36 : decode cX5_init 36 = .ok (.aload_n 1, 1) := by decide +kernel
theorem dX5_init_37 : decode cX5_init 37 = .ok (.invokespecial 27, 3) := by decide +kernel
theorem dX5_init_40 : decode cX5_init 40 = .ok (.putfield 30, 3) := by decide +kernel
theorem dX5_init_43 : decode cX5_init 43 = .ok (.aload_n 0, 1) := by decide +kernel
theorem dX5_init_44 : decode cX5_init 44 = .ok (.aload_n 0, 1) := by decide +kernel
theorem dX5_init_45 : decode cX5_init 45 = .ok (.getfield 30, 3) := by decide +kernel
theorem dX5_init_48 : decode cX5_init 48 = .ok (.getfield 34, 3) := by decide +kernel
theorem dX5_init_51 : decode cX5_init 51 = .ok (.newarray .int, 2) := by decide +kernel
theorem dX5_init_53 : decode cX5_init 53 = .ok (.putfield 38, 3) := by decide +kernel
theorem dX5_init_56 : decode cX5_init 56 = .ok (.return_, 1) := by decide +kernel
theorem dX5_readAll_0 : decode cX5_readAll 0 = .ok (.aload_n 0, 1) := by decide +kernel
theorem dX5_readAll_1 : decode cX5_readAll 1 = .ok (.getfield 30, 3) := by decide +kernel
theorem dX5_readAll_4 : decode cX5_readAll 4 = .ok (.invokevirtual 42, 3) := by decide +kernel
theorem dX5_readAll_7 : decode cX5_readAll 7 = .ok (.iconst 0, 1) := by decide +kernel
theorem dX5_readAll_8 : decode cX5_readAll 8 = .ok (.istore_n 1, 1) := by decide +kernel
theorem dX5_readAll_9 : decode cX5_readAll 9 = .ok (.iload_n 1, 1) := by decide +kernel
theorem dX5_readAll_10 : decode cX5_readAll 10 = .ok (.sipush 1000, 3) := by decide +kernel
theorem dX5_readAll_13 : decode cX5_readAll 13 = .ok (.if_icmp .gt 31, 3) := by decide +kernel
theorem dX5_readAll_16 : decode cX5_readAll 16 = .ok (.aload_n 0, 1) := by decide +kernel
theorem dX5_readAll_17 : decode cX5_readAll 17 = .ok (.getfield 30, 3) := by decide +kernel
theorem dX5_readAll_20 : decode cX5_readAll 20 = .ok (.getfield 47, 3) := by decide +kernel
theorem dX5_readAll_23 : decode cX5_readAll 23 = .ok (.ifCond .eq 21, 3) := by decide +kernel
theorem dX5_readAll_26 : decode cX5_readAll 26 = .ok (.aload_n 0, 1) := by decide +kernel
theorem dX5_readAll_27 : decode cX5_readAll 27 = .ok (.invokevirtual 50, 3) := by decide +kernel
theorem dX5_readAll_30 : decode cX5_readAll 30 = .ok (.ifCond .ne 8, 3) := by decide +kernel
theorem dX5_readAll_33 : decode cX5_readAll 33 = .ok (.aload_n 0, 1) := by decide +kernel
theorem dX5_readAll_34 : decode cX5_readAll 34 = .ok (.getfield 54, 3) := by decide +kernel
theorem dX5_readAll_37 : decode cX5_readAll 37 = .ok (.ireturn, 1) := by decide +kernel
theorem dX5_readAll_38 : decode cX5_readAll 38 = .ok (.iinc 1 1, 3) := by decide +kernel
theorem dX5_readAll_41 : decode cX5_readAll 41 = .ok (.goto (-32), 3) := by decide +kernel
theorem dX5_readAll_44 : decode cX5_readAll 44 = .ok (.aload_n 0, 1) := by decide +kernel
theorem dX5_readAll_45 : decode cX5_readAll 45 = .ok (.getfield 12, 3) := by decide +kernel
theorem dX5_readAll_48 : decode cX5_readAll 48 = .ok (.invokevirtual 57, 3) := by decide +kernel
theorem dX5_readAll_51 : decode cX5_readAll 51 = .ok (.iconst 0, 1) := by decide +kernel
theorem dX5_readAll_52 : decode cX5_readAll 52 = .ok (.ireturn, 1) := by decide +kernel
theorem dX5_wrong_0 : decode cX5_wrong 0 = .ok (.aload_n 0, 1) := by decide +kernel
theorem dX5_wrong_1 : decode cX5_wrong 1 = .ok (.iload_n 1, 1) := by decide +kernel
theorem dX5_wrong_2 : decode cX5_wrong 2 = .ok (.bipush 16, 2) := by decide +kernel
theorem dX5_wrong_4 : decode cX5_wrong 4 = .ok (.aload_n 0, 1) := by decide +kernel
theorem dX5_wrong_5 : decode cX5_wrong 5 = .ok (.getfield 30, 3) := by decide +kernel
theorem dX5_wrong_8 : decode cX5_wrong 8 = .ok (.getfield 60, 3) := by decide +kernel
theorem dX5_wrong_11 : decode cX5_wrong 11 = .ok (.imul, 1) := by decide +kernel
theorem dX5_wrong_12 : decode cX5_wrong 12 = .ok (.iadd, 1) := by decide +kernel
theorem dX5_wrong_13 : decode cX5_wrong 13 = .ok (.putfield 54, 3) := by decide +kernel
theorem dX5_wrong_16 : decode cX5_wrong 16 = .ok (.iconst 0, 1) := by decide +kernel
theorem dX5_wrong_17 : decode cX5_wrong 17 = .ok (.ireturn, 1) := by decide +kernel
theorem dX5_readLine_0 : decode cX5_readLine 0 = .ok (.aload_n 0, 1) := by decide +kernel
theorem dX5_readLine_1 : decode cX5_readLine 1 = .ok (.getfield 30, 3) := by decide +kernel
theorem dX5_readLine_4 : decode cX5_readLine 4 = .ok (.getfield 63, 3) := by decide +kernel
theorem dX5_readLine_7 : decode cX5_readLine 7 = .ok (.astore_n 2, 1) := by decide +kernel
theorem dX5_readLine_8 : decode cX5_readLine 8 = .ok (.aload_n 2, 1) := by decide +kernel
theorem dX5_readLine_9 : decode cX5_readLine 9 = .ok (.getstatic 67, 3) := by decide +kernel
theorem dX5_readLine_12 : decode cX5_readLine 12 = .ok (.if_acmp .ne 12, 3) := by decide +kernel
theorem dX5_readLine_15 : decode cX5_readLine 15 = .ok (.aload_n 0, 1) := by decide +kernel
theorem dX5_readLine_16 : decode cX5_readLine 16 = .ok (.iconst 1, 1) := by decide +kernel
theorem dX5_readLine_17 : decode cX5_readLine 17 = .ok (.invokevirtual 72, 3) := by decide +kernel
end
section
theorem dX5_readLine_20 : decode cX5_readLine 20 = .ok (.istore_n 1, 1) := by decide +kernel
theorem dX5_readLine_21 : decode cX5_readLine 21 = .ok (.goto 100, 3) := by decide +kernel
theorem dX5_readLine_24 : decode cX5_readLine 24 = .ok (.aload_n 2, 1) := by decide +kernel
theorem dX5_readLine_25 : decode cX5_readLine 25 = .ok (.getstatic 76, 3) := by decide +kernel
theorem dX5_readLine_28 : decode cX5_readLine 28 = .ok (.if_acmp .ne 12, 3) := by decide +kernel
theorem dX5_readLine_31 : decode cX5_readLine 31 = .ok (.aload_n 0, 1) := by decide +kernel
theorem dX5_readLine_32 : decode cX5_readLine 32 = .ok (.iconst 0, 1) := by decide +kernel
theorem dX5_readLine_33 : decode cX5_readLine 33 = .ok (.invokevirtual 72, 3) := by decide +kernel
theorem dX5_readLine_36 : decode cX5_readLine 36 = .ok (.istore_n 1, 1) := by decide +kernel
theorem dX5_readLine_37 : decode cX5_readLine 37 = .ok (.goto 84, 3) := by decide +kernel
theorem dX5_readLine_40 : decode cX5_readLine 40 = .ok (.aload_n 2, 1) := by decide +kernel
theorem dX5_readLine_41 : decode cX5_readLine 41 = .ok (.getstatic 79, 3) := by decide +kernel
theorem dX5_readLine_44 : decode cX5_readLine 44 = .ok (.if_acmp .ne 11, 3) := by decide +kernel
theorem dX5_readLine_47 : decode cX5_readLine 47 = .ok (.aload_n 0, 1) := by decide +kernel
theorem dX5_readLine_48 : decode cX5_readLine 48 = .ok (.invokevirtual 82, 3) := by decide +kernel
theorem dX5_readLine_51 : decode cX5_readLine 51 = .ok (.istore_n 1, 1) := by decide +kernel
theorem dX5_readLine_52 : decode cX5_readLine 52 = .ok (.goto 69, 3) := by decide +kernel
theorem dX5_readLine_55 : decode cX5_readLine 55 = .ok (.aload_n 2, 1) := by decide +kernel
theorem dX5_readLine_56 : decode cX5_readLine 56 = .ok (.getstatic 85, 3) := by decide +kernel
theorem dX5_readLine_59 : decode cX5_readLine 59 = .ok (.if_acmp .ne 11, 3) := by decide +kernel
theorem dX5_readLine_62 : decode cX5_readLine 62 = .ok (.aload_n 0, 1) := by decide +kernel
theorem dX5_readLine_63 : decode cX5_readLine 63 = .ok (.invokevirtual 88, 3) := by decide +kernel
theorem dX5_readLine_66 : decode cX5_readLine 66 = .ok (.istore_n 1, 1) := by decide +kernel
theorem dX5_readLine_67 : decode cX5_readLine 67 = .ok (.goto 54, 3) := by decide +kernel
theorem dX5_readLine_70 : decode cX5_readLine 70 = .ok (.aload_n 2, 1) := by decide +kernel
theorem dX5_readLine_71 : decode cX5_readLine 71 = .ok (.getstatic 91, 3) := by decide +kernel
theorem dX5_readLine_74 : decode cX5_readLine 74 = .ok (.if_acmp .ne 11, 3) := by decide +kernel
theorem dX5_readLine_77 : decode cX5_readLine 77 = .ok (.aload_n 0, 1) := by decide +kernel
theorem dX5_readLine_78 : decode cX5_readLine 78 = .ok (.invokevirtual 94, 3) := by decide +kernel
theorem dX5_readLine_81 : decode cX5_readLine 81 = .ok (.istore_n 1, 1) := by decide +kernel
theorem dX5_readLine_82 : decode cX5_readLine 82 = .ok (.goto 39, 3) := by decide +kernel
theorem dX5_readLine_85 : decode cX5_readLine 85 = .ok (.aload_n 2, 1) := by decide +kernel
theorem dX5_readLine_86 : decode cX5_readLine 86 = .ok (.getstatic 97, 3) := by decide +kernel
theorem dX5_readLine_89 : decode cX5_readLine 89 = .ok (.if_acmp .ne 11, 3) := by decide +kernel
theorem dX5_readLine_92 : decode cX5_readLine 92 = .ok (.aload_n 0, 1) := by decide +kernel
theorem dX5_readLine_93 : decode cX5_readLine 93 = .ok (.invokevirtual 100, 3) := by decide +kernel
theorem dX5_readLine_96 : decode cX5_readLine 96 = .ok (.istore_n 1, 1) := by decide +kernel
theorem dX5_readLine_97 : decode cX5_readLine 97 = .ok (.goto 24, 3) := by decide +kernel
theorem dX5_readLine_100 : decode cX5_readLine 100 = .ok (.aload_n 2, 1) := by decide +kernel
theorem dX5_readLine_101 : decode cX5_readLine 101 = .ok (.getstatic 103, 3) := by decide +kernel
theorem dX5_readLine_104 : decode cX5_readLine 104 = .ok (.if_acmp .ne 11, 3) := by decide +kernel
theorem dX5_readLine_107 : decode cX5_readLine 107 = .ok (.aload_n 0, 1) := by decide +kernel
theorem dX5_readLine_108 : decode cX5_readLine 108 = .ok (.invokevirtual 106, 3) := by decide +kernel
theorem dX5_readLine_111 : decode cX5_readLine 111 = .ok (.istore_n 1, 1) := by decide +kernel
theorem dX5_readLine_112 : decode cX5_readLine 112 = .ok (.goto 9, 3) := by decide +kernel
theorem dX5_readLine_115 : decode cX5_readLine 115 = .ok (.aload_n 0, 1) := by decide +kernel
theorem dX5_readLine_116 : decode cX5_readLine 116 = .ok (.iconst 1, 1) := by decide +kernel
theorem dX5_readLine_117 : decode cX5_readLine 117 = .ok (.invokevirtual 109, 3) := by decide +kernel
theorem dX5_readLine_120 : decode cX5_readLine 120 = .ok (.istore_n 1, 1) := by decide +kernel
theorem dX5_readLine_121 : decode cX5_readLine 121 = .ok (.iload_n 1, 1) := by decide +kernel
theorem dX5_readLine_122 : decode cX5_readLine 122 = .ok (.ifCond .eq 16, 3) := by decide +kernel
theorem dX5_readLine_125 : decode cX5_readLine 125 = .ok (.aload_n 0, 1) := by decide +kernel
theorem dX5_readLine_126 : decode cX5_readLine 126 = .ok (.bipush 59, 2) := by decide +kernel
theorem dX5_readLine_128 : decode cX5_readLine 128 = .ok (.invokevirtual 113, 3) := by decide +kernel
theorem dX5_readLine_131 : decode cX5_readLine 131 = .ok (.ifCond .eq 7, 3) := by decide +kernel
theorem dX5_readLine_134 : decode cX5_readLine 134 = .ok (.iconst 1, 1) := by decide +kernel
theorem dX5_readLine_135 : decode cX5_readLine 135 = .ok (.goto 4, 3) := by decide +kernel
theorem dX5_readLine_138 : decode cX5_readLine 138 = .ok (.iconst 0, 1) := by decide +kernel
theorem dX5_readLine_139 : decode cX5_readLine 139 = .ok (.ireturn, 1) := by decide +kernel
theorem dX5_readFormula_0 : decode cX5_readFormula 0 = .ok (.iload_n 1, 1) := by decide +kernel
theorem dX5_readFormula_1 : decode cX5_readFormula 1 = .ok (.ifCond .eq 13, 3) := by decide +kernel
theorem dX5_readFormula_4 : decode cX5_readFormula 4 = .ok (.aload_n 0, 1) := by decide +kernel
theorem dX5_readFormula_5 : decode cX5_readFormula 5 = .ok (.getfield 12, 3) := by decide +kernel
theorem dX5_readFormula_8 : decode cX5_readFormula 8 = .ok (.getfield 116, 3) := by decide +kernel
theorem dX5_readFormula_11 : decode cX5_readFormula 11 = .ok (.goto 10, 3) := by decide +kernel
theorem dX5_readFormula_14 : decode cX5_readFormula 14 = .ok (.aload_n 0, 1) := by decide +kernel
theorem dX5_readFormula_15 : decode cX5_readFormula 15 = .ok (.getfield 12, 3) := by decide +kernel
theorem dX5_readFormula_18 : decode cX5_readFormula 18 = .ok (.getfield 120, 3) := by decide +kernel
theorem dX5_readFormula_21 : decode cX5_readFormula 21 = .ok (.ifnull 9, 3) := by decide +kernel
theorem dX5_readFormula_24 : decode cX5_readFormula 24 = .ok (.aload_n 0, 1) := by decide +kernel
theorem dX5_readFormula_25 : decode cX5_readFormula 25 = .ok (.iconst 3, 1) := by decide +kernel
theorem dX5_readFormula_26 : decode cX5_readFormula 26 = .ok (.invokevirtual 109, 3) := by decide +kernel
theorem dX5_readFormula_29 : decode cX5_readFormula 29 = .ok (.ireturn, 1) := by decide +kernel
theorem dX5_readFormula_30 : decode cX5_readFormula 30 = .ok (.aload_n 0, 1) := by decide +kernel
theorem dX5_readFormula_31 : decode cX5_readFormula 31 = .ok (.iload_n 1, 1) := by decide +kernel
theorem dX5_readFormula_32 : decode cX5_readFormula 32 = .ok (.ifCond .eq 7, 3) := by decide +kernel
theorem dX5_readFormula_35 : decode cX5_readFormula 35 = .ok (.iconst 0, 1) := by decide +kernel
theorem dX5_readFormula_36 : decode cX5_readFormula 36 = .ok (.goto 4, 3) := by decide +kernel
theorem dX5_readFormula_39 : decode cX5_readFormula 39 = .ok (.iconst 3, 1) := by decide +kernel
theorem dX5_readFormula_40 : decode cX5_readFormula 40 = .ok (.putfield 123, 3) := by decide +kernel
theorem dX5_readFormula_43 : decode cX5_readFormula 43 = .ok (.aload_n 0, 1) := by decide +kernel
theorem dX5_readFormula_44 : decode cX5_readFormula 44 = .ok (.iload_n 1, 1) := by decide +kernel
theorem dX5_readFormula_45 : decode cX5_readFormula 45 = .ok (.ifCond .eq 7, 3) := by decide +kernel
theorem dX5_readFormula_48 : decode cX5_readFormula 48 = .ok (.iconst 2, 1) := by decide +kernel
theorem dX5_readFormula_49 : decode cX5_readFormula 49 = .ok (.goto 5, 3) := by decide +kernel
theorem dX5_readFormula_52 : decode cX5_readFormula 52 = .ok (.bipush 8, 2) := by decide +kernel
theorem dX5_readFormula_54 : decode cX5_readFormula 54 = .ok (.putfield 126, 3) := by decide +kernel
theorem dX5_readFormula_57 : decode cX5_readFormula 57 = .ok (.aload_n 0, 1) := by decide +kernel
theorem dX5_readFormula_58 : decode cX5_readFormula 58 = .ok (.iconst 0, 1) := by decide +kernel
theorem dX5_readFormula_59 : decode cX5_readFormula 59 = .ok (.putfield 129, 3) := by decide +kernel
theorem dX5_readFormula_62 : decode cX5_readFormula 62 = .ok (.aload_n 0, 1) := by decide +kernel
theorem dX5_readFormula_63 : decode cX5_readFormula 63 = .ok (.getfield 30, 3) := by decide +kernel
theorem dX5_readFormula_66 : decode cX5_readFormula 66 = .ok (.invokevirtual 42, 3) := by decide +kernel
theorem dX5_readFormula_69 : decode cX5_readFormula 69 = .ok (.aload_n 0, 1) := by decide +kernel
theorem dX5_readFormula_70 : decode cX5_readFormula 70 = .ok (.iconst 0, 1) := by decide +kernel
theorem dX5_readFormula_71 : decode cX5_readFormula 71 = .ok (.iconst 0, 1) := by decide +kernel
theorem dX5_readFormula_72 : decode cX5_readFormula 72 = .ok (.invokevirtual 132, 3) := by decide +kernel
theorem dX5_readFormula_75 : decode cX5_readFormula 75 = .ok (.ifCond .ne 5, 3) := by decide +kernel
theorem dX5_readFormula_78 : decode cX5_readFormula 78 = .ok (.iconst 0, 1) := by decide +kernel
theorem dX5_readFormula_79 : decode cX5_readFormula 79 = .ok (.ireturn, 1) := by decide +kernel
theorem dX5_readFormula_80 : decode cX5_readFormula 80 = .ok (.new 136, 3) := by decide +kernel
theorem dX5_readFormula_83 : decode cX5_readFormula 83 = .ok (.dup, 1) := by decide +kernel
theorem dX5_readFormula_84 : decode cX5_readFormula 84 = .ok (.aload_n 0, 1) := by decide +kernel
theorem dX5_readFormula_85 : decode cX5_readFormula 85 = .ok (.getfield 38, 3) := by decide +kernel
theorem dX5_readFormula_88 : decode cX5_readFormula 88 = .ok (.aload_n 0, 1) := by decide +kernel
theorem dX5_readFormula_89 : decode cX5_readFormula 89 = .ok (.getfield 129, 3) := by decide +kernel
theorem dX5_readFormula_92 : decode cX5_readFormula 92 = .ok (.invokespecial 138, 3) := by decide +kernel
theorem dX5_readFormula_95 : decode cX5_readFormula 95 = .ok (.astore_n 2, 1) := by decide +kernel
theorem dX5_readFormula_96 : decode cX5_readFormula 96 = .ok (.iload_n 1, 1) := by decide +kernel
theorem dX5_readFormula_97 : decode cX5_readFormula 97 = .ok (.ifCond .eq 14, 3) := by decide +kernel
theorem dX5_readFormula_100 : decode cX5_readFormula 100 = .ok (.aload_n 0, 1) := by decide +kernel
theorem dX5_readFormula_101 : decode cX5_readFormula 101 = .ok (.getfield 12, 3) := by decide +kernel
theorem dX5_readFormula_104 : decode cX5_readFormula 104 = .ok (.aload_n 2, 1) := by decide +kernel
theorem dX5_readFormula_105 : decode cX5_readFormula 105 = .ok (.putfield 116, 3) := by decide +kernel
theorem dX5_readFormula_108 : decode cX5_readFormula 108 = .ok (.goto 11, 3) := by decide +kernel
theorem dX5_readFormula_111 : decode cX5_readFormula 111 = .ok (.aload_n 0, 1) := by decide +kernel
theorem dX5_readFormula_112 : decode cX5_readFormula 112 = .ok (.getfield 12, 3) := by decide +kernel
theorem dX5_readFormula_115 : decode cX5_readFormula 115 = .ok (.aload_n 2, 1) := by decide +kernel
theorem dX5_readFormula_116 : decode cX5_readFormula 116 = .ok (.putfield 120, 3) := by decide +kernel
theorem dX5_readFormula_119 : decode cX5_readFormula 119 = .ok (.iconst 1, 1) := by decide +kernel
theorem dX5_readFormula_120 : decode cX5_readFormula 120 = .ok (.ireturn, 1) := by decide +kernel
theorem dX5_readMild_0 : decode cX5_readMild 0 = .ok (.aload_n 0, 1) := by decide +kernel
theorem dX5_readMild_1 : decode cX5_readMild 1 = .ok (.getfield 141, 3) := by decide +kernel
theorem dX5_readMild_4 : decode cX5_readMild 4 = .ok (.ifCond .eq 9, 3) := by decide +kernel
theorem dX5_readMild_7 : decode cX5_readMild 7 = .ok (.aload_n 0, 1) := by decide +kernel
theorem dX5_readMild_8 : decode cX5_readMild 8 = .ok (.iconst 3, 1) := by decide +kernel
theorem dX5_readMild_9 : decode cX5_readMild 9 = .ok (.invokevirtual 109, 3) := by decide +kernel
theorem dX5_readMild_12 : decode cX5_readMild 12 = .ok (.ireturn, 1) := by decide +kernel
theorem dX5_readMild_13 : decode cX5_readMild 13 = .ok (.aload_n 0, 1) := by decide +kernel
theorem dX5_readMild_14 : decode cX5_readMild 14 = .ok (.getfield 30, 3) := by decide +kernel
theorem dX5_readMild_17 : decode cX5_readMild 17 = .ok (.invokevirtual 42, 3) := by decide +kernel
theorem dX5_readMild_20 : decode cX5_readMild 20 = .ok (.aload_n 0, 1) := by decide +kernel
theorem dX5_readMild_21 : decode cX5_readMild 21 = .ok (.bipush 20, 2) := by decide +kernel
theorem dX5_readMild_23 : decode cX5_readMild 23 = .ok (.invokevirtual 145, 3) := by decide +kernel
theorem dX5_readMild_26 : decode cX5_readMild 26 = .ok (.ifCond .ne 5, 3) := by decide +kernel
theorem dX5_readMild_29 : decode cX5_readMild 29 = .ok (.iconst 0, 1) := by decide +kernel
theorem dX5_readMild_30 : decode cX5_readMild 30 = .ok (.ireturn, 1) := by decide +kernel
theorem dX5_readMild_31 : decode cX5_readMild 31 = .ok (.aload_n 0, 1) := by decide +kernel
theorem dX5_readMild_32 : decode cX5_readMild 32 = .ok (.iconst 1, 1) := by decide +kernel
theorem dX5_readMild_33 : decode cX5_readMild 33 = .ok (.putfield 141, 3) := by decide +kernel
theorem dX5_readMild_36 : decode cX5_readMild 36 = .ok (.aload_n 0, 1) := by decide +kernel
theorem dX5_readMild_37 : decode cX5_readMild 37 = .ok (.getfield 12, 3) := by decide +kernel
theorem dX5_readMild_40 : decode cX5_readMild 40 = .ok (.aload_n 0, 1) := by decide +kernel
theorem dX5_readMild_41 : decode cX5_readMild 41 = .ok (.getfield 148, 3) := by decide +kernel
theorem dX5_readMild_44 : decode cX5_readMild 44 = .ok (.putfield 151, 3) := by decide +kernel
theorem dX5_readMild_47 : decode cX5_readMild 47 = .ok (.iconst 1, 1) := by decide +kernel
theorem dX5_readMild_48 : decode cX5_readMild 48 = .ok (.ireturn, 1) := by decide +kernel
theorem dX5_readCell_0 : decode cX5_readCell 0 = .ok (.aload_n 0, 1) := by decide +kernel
theorem dX5_readCell_1 : decode cX5_readCell 1 = .ok (.getfield 12, 3) := by decide +kernel
theorem dX5_readCell_4 : decode cX5_readCell 4 = .ok (.getfield 154, 3) := by decide +kernel
theorem dX5_readCell_7 : decode cX5_readCell 7 = .ok (.istore_n 1, 1) := by decide +kernel
theorem dX5_readCell_8 : decode cX5_readCell 8 = .ok (.iload_n 1, 1) := by decide +kernel
theorem dX5_readCell_9 : decode cX5_readCell 9 = .ok (.bipush 8, 2) := by decide +kernel
theorem dX5_readCell_11 : decode cX5_readCell 11 = .ok (.if_icmp .lt 9, 3) := by decide +kernel
theorem dX5_readCell_14 : decode cX5_readCell 14 = .ok (.aload_n 0, 1) := by decide +kernel
theorem dX5_readCell_15 : decode cX5_readCell 15 = .ok (.iconst 5, 1) := by decide +kernel
theorem dX5_readCell_16 : decode cX5_readCell 16 = .ok (.invokevirtual 109, 3) := by decide +kernel
theorem dX5_readCell_19 : decode cX5_readCell 19 = .ok (.ireturn, 1) := by decide +kernel
theorem dX5_readCell_20 : decode cX5_readCell 20 = .ok (.aload_n 0, 1) := by decide +kernel
theorem dX5_readCell_21 : decode cX5_readCell 21 = .ok (.getfield 30, 3) := by decide +kernel
theorem dX5_readCell_24 : decode cX5_readCell 24 = .ok (.invokevirtual 42, 3) := by decide +kernel
theorem dX5_readCell_27 : decode cX5_readCell 27 = .ok (.aload_n 0, 1) := by decide +kernel
theorem dX5_readCell_28 : decode cX5_readCell 28 = .ok (.invokevirtual 157, 3) := by decide +kernel
theorem dX5_readCell_31 : decode cX5_readCell 31 = .ok (.ifCond .ne 5, 3) := by decide +kernel
theorem dX5_readCell_34 : decode cX5_readCell 34 = .ok (.iconst 0, 1) := by decide +kernel
theorem dX5_readCell_35 : decode cX5_readCell 35 = .ok (.ireturn, 1) := by decide +kernel
theorem dX5_readCell_36 : decode cX5_readCell 36 = .ok (.aload_n 0, 1) := by decide +kernel
theorem dX5_readCell_37 : decode cX5_readCell 37 = .ok (.getfield 18, 3) := by decide +kernel
theorem dX5_readCell_40 : decode cX5_readCell 40 = .ok (.iload_n 1, 1) := by decide +kernel
theorem dX5_readCell_41 : decode cX5_readCell 41 = .ok (.aload_n 0, 1) := by decide +kernel
theorem dX5_readCell_42 : decode cX5_readCell 42 = .ok (.getfield 30, 3) := by decide +kernel
theorem dX5_readCell_45 : decode cX5_readCell 45 = .ok (.getfield 160, 3) := by decide +kernel
theorem dX5_readCell_48 : decode cX5_readCell 48 = .ok (.lastore, 1) := by decide +kernel
theorem dX5_readCell_49 : decode cX5_readCell 49 = .ok (.aload_n 0, 1) := by decide +kernel
theorem dX5_readCell_50 : decode cX5_readCell 50 = .ok (.getfield 30, 3) := by decide +kernel
theorem dX5_readCell_53 : decode cX5_readCell 53 = .ok (.invokevirtual 42, 3) := by decide +kernel
theorem dX5_readCell_56 : decode cX5_readCell 56 = .ok (.aload_n 0, 1) := by decide +kernel
theorem dX5_readCell_57 : decode cX5_readCell 57 = .ok (.getstatic 164, 3) := by decide +kernel
theorem dX5_readCell_60 : decode cX5_readCell 60 = .ok (.invokevirtual 167, 3) := by decide +kernel
theorem dX5_readCell_63 : decode cX5_readCell 63 = .ok (.ifCond .eq 12, 3) := by decide +kernel
theorem dX5_readCell_66 : decode cX5_readCell 66 = .ok (.aload_n 0, 1) := by decide +kernel
theorem dX5_readCell_67 : decode cX5_readCell 67 = .ok (.bipush 9, 2) := by decide +kernel
theorem dX5_readCell_69 : decode cX5_readCell 69 = .ok (.invokevirtual 145, 3) := by decide +kernel
theorem dX5_readCell_72 : decode cX5_readCell 72 = .ok (.ifCond .ne 5, 3) := by decide +kernel
theorem dX5_readCell_75 : decode cX5_readCell 75 = .ok (.iconst 0, 1) := by decide +kernel
theorem dX5_readCell_76 : decode cX5_readCell 76 = .ok (.ireturn, 1) := by decide +kernel
theorem dX5_readCell_77 : decode cX5_readCell 77 = .ok (.aload_n 0, 1) := by decide +kernel
theorem dX5_readCell_78 : decode cX5_readCell 78 = .ok (.getfield 12, 3) := by decide +kernel
theorem dX5_readCell_81 : decode cX5_readCell 81 = .ok (.getfield 171, 3) := by decide +kernel
theorem dX5_readCell_84 : decode cX5_readCell 84 = .ok (.iload_n 1, 1) := by decide +kernel
theorem dX5_readCell_85 : decode cX5_readCell 85 = .ok (.aload_n 0, 1) := by decide +kernel
theorem dX5_readCell_86 : decode cX5_readCell 86 = .ok (.getfield 148, 3) := by decide +kernel
theorem dX5_readCell_89 : decode cX5_readCell 89 = .ok (.iastore, 1) := by decide +kernel
theorem dX5_readCell_90 : decode cX5_readCell 90 = .ok (.aload_n 0, 1) := by decide +kernel
theorem dX5_readCell_91 : decode cX5_readCell 91 = .ok (.getfield 12, 3) := by decide +kernel
theorem dX5_readCell_94 : decode cX5_readCell 94 = .ok (.dup, 1) := by decide +kernel
theorem dX5_readCell_95 : decode cX5_readCell 95 = .ok (.getfield 154, 3) := by decide +kernel
theorem dX5_readCell_98 : decode cX5_readCell 98 = .ok (.iconst 1, 1) := by decide +kernel
theorem dX5_readCell_99 : decode cX5_readCell 99 = .ok (.iadd, 1) := by decide +kernel
theorem dX5_readCell_100 : decode cX5_readCell 100 = .ok (.putfield 154, 3) := by decide +kernel
theorem dX5_readCell_103 : decode cX5_readCell 103 = .ok (.iconst 1, 1) := by decide +kernel
theorem dX5_readCell_104 : decode cX5_readCell 104 = .ok (.ireturn, 1) := by decide +kernel
theorem dX5_readDoor_0 : decode cX5_readDoor 0 = .ok (.aload_n 0, 1) := by decide +kernel
theorem dX5_readDoor_1 : decode cX5_readDoor 1 = .ok (.getfield 12, 3) := by decide +kernel
theorem dX5_readDoor_4 : decode cX5_readDoor 4 = .ok (.getfield 174, 3) := by decide +kernel
theorem dX5_readDoor_7 : decode cX5_readDoor 7 = .ok (.istore_n 1, 1) := by decide +kernel
theorem dX5_readDoor_8 : decode cX5_readDoor 8 = .ok (.iload_n 1, 1) := by decide +kernel
theorem dX5_readDoor_9 : decode cX5_readDoor 9 = .ok (.bipush 10, 2) := by decide +kernel
theorem dX5_readDoor_11 : decode cX5_readDoor 11 = .ok (.if_icmp .lt 9, 3) := by decide +kernel
theorem dX5_readDoor_14 : decode cX5_readDoor 14 = .ok (.aload_n 0, 1) := by decide +kernel
theorem dX5_readDoor_15 : decode cX5_readDoor 15 = .ok (.iconst 5, 1) := by decide +kernel
theorem dX5_readDoor_16 : decode cX5_readDoor 16 = .ok (.invokevirtual 109, 3) := by decide +kernel
theorem dX5_readDoor_19 : decode cX5_readDoor 19 = .ok (.ireturn, 1) := by decide +kernel
theorem dX5_readDoor_20 : decode cX5_readDoor 20 = .ok (.aload_n 0, 1) := by decide +kernel
theorem dX5_readDoor_21 : decode cX5_readDoor 21 = .ok (.getfield 30, 3) := by decide +kernel
theorem dX5_readDoor_24 : decode cX5_readDoor 24 = .ok (.invokevirtual 42, 3) := by decide +kernel
theorem dX5_readDoor_27 : decode cX5_readDoor 27 = .ok (.aload_n 0, 1) := by decide +kernel
theorem dX5_readDoor_28 : decode cX5_readDoor 28 = .ok (.invokevirtual 177, 3) := by decide +kernel
theorem dX5_readDoor_31 : decode cX5_readDoor 31 = .ok (.ifCond .ne 5, 3) := by decide +kernel
theorem dX5_readDoor_34 : decode cX5_readDoor 34 = .ok (.iconst 0, 1) := by decide +kernel
theorem dX5_readDoor_35 : decode cX5_readDoor 35 = .ok (.ireturn, 1) := by decide +kernel
theorem dX5_readDoor_36 : decode cX5_readDoor 36 = .ok (.aload_n 0, 1) := by decide +kernel
theorem dX5_readDoor_37 : decode cX5_readDoor 37 = .ok (.getfield 12, 3) := by decide +kernel
theorem dX5_readDoor_40 : decode cX5_readDoor 40 = .ok (.getfield 180, 3) := by decide +kernel
theorem dX5_readDoor_43 : decode cX5_readDoor 43 = .ok (.iload_n 1, 1) := by decide +kernel
theorem dX5_readDoor_44 : decode cX5_readDoor 44 = .ok (.aload_n 0, 1) := by decide +kernel
theorem dX5_readDoor_45 : decode cX5_readDoor 45 = .ok (.aload_n 0, 1) := by decide +kernel
theorem dX5_readDoor_46 : decode cX5_readDoor 46 = .ok (.getfield 30, 3) := by decide +kernel
theorem dX5_readDoor_49 : decode cX5_readDoor 49 = .ok (.getfield 160, 3) := by decide +kernel
theorem dX5_readDoor_52 : decode cX5_readDoor 52 = .ok (.invokevirtual 183, 3) := by decide +kernel
theorem dX5_readDoor_55 : decode cX5_readDoor 55 = .ok (.iastore, 1) := by decide +kernel
theorem dX5_readDoor_56 : decode cX5_readDoor 56 = .ok (.aload_n 0, 1) := by decide +kernel
theorem dX5_readDoor_57 : decode cX5_readDoor 57 = .ok (.getfield 30, 3) := by decide +kernel
theorem dX5_readDoor_60 : decode cX5_readDoor 60 = .ok (.invokevirtual 42, 3) := by decide +kernel
theorem dX5_readDoor_63 : decode cX5_readDoor 63 = .ok (.aload_n 0, 1) := by decide +kernel
theorem dX5_readDoor_64 : decode cX5_readDoor 64 = .ok (.getstatic 187, 3) := by decide +kernel
theorem dX5_readDoor_67 : decode cX5_readDoor 67 = .ok (.invokevirtual 167, 3) := by decide +kernel
theorem dX5_readDoor_70 : decode cX5_readDoor 70 = .ok (.ifCond .eq 30, 3) := by decide +kernel
theorem dX5_readDoor_73 : decode cX5_readDoor 73 = .ok (.aload_n 0, 1) := by decide +kernel
theorem dX5_readDoor_74 : decode cX5_readDoor 74 = .ok (.iload_n 1, 1) := by decide +kernel
theorem dX5_readDoor_75 : decode cX5_readDoor 75 = .ok (.invokevirtual 190, 3) := by decide +kernel
theorem dX5_readDoor_78 : decode cX5_readDoor 78 = .ok (.ifCond .eq 22, 3) := by decide +kernel
theorem dX5_readDoor_81 : decode cX5_readDoor 81 = .ok (.aload_n 0, 1) := by decide +kernel
theorem dX5_readDoor_82 : decode cX5_readDoor 82 = .ok (.getstatic 193, 3) := by decide +kernel
theorem dX5_readDoor_85 : decode cX5_readDoor 85 = .ok (.invokevirtual 167, 3) := by decide +kernel
theorem dX5_readDoor_88 : decode cX5_readDoor 88 = .ok (.ifCond .eq 12, 3) := by decide +kernel
theorem dX5_readDoor_91 : decode cX5_readDoor 91 = .ok (.aload_n 0, 1) := by decide +kernel
theorem dX5_readDoor_92 : decode cX5_readDoor 92 = .ok (.bipush 99, 2) := by decide +kernel
theorem dX5_readDoor_94 : decode cX5_readDoor 94 = .ok (.invokevirtual 145, 3) := by decide +kernel
theorem dX5_readDoor_97 : decode cX5_readDoor 97 = .ok (.ifCond .ne 5, 3) := by decide +kernel
theorem dX5_readDoor_100 : decode cX5_readDoor 100 = .ok (.iconst 0, 1) := by decide +kernel
theorem dX5_readDoor_101 : decode cX5_readDoor 101 = .ok (.ireturn, 1) := by decide +kernel
theorem dX5_readDoor_102 : decode cX5_readDoor 102 = .ok (.aload_n 0, 1) := by decide +kernel
theorem dX5_readDoor_103 : decode cX5_readDoor 103 = .ok (.getfield 12, 3) := by decide +kernel
theorem dX5_readDoor_106 : decode cX5_readDoor 106 = .ok (.getfield 196, 3) := by decide +kernel
theorem dX5_readDoor_109 : decode cX5_readDoor 109 = .ok (.iload_n 1, 1) := by decide +kernel
theorem dX5_readDoor_110 : decode cX5_readDoor 110 = .ok (.aload_n 0, 1) := by decide +kernel
theorem dX5_readDoor_111 : decode cX5_readDoor 111 = .ok (.getfield 148, 3) := by decide +kernel
theorem dX5_readDoor_114 : decode cX5_readDoor 114 = .ok (.iastore, 1) := by decide +kernel
theorem dX5_readDoor_115 : decode cX5_readDoor 115 = .ok (.aload_n 0, 1) := by decide +kernel
theorem dX5_readDoor_116 : decode cX5_readDoor 116 = .ok (.getfield 12, 3) := by decide +kernel
theorem dX5_readDoor_119 : decode cX5_readDoor 119 = .ok (.dup, 1) := by decide +kernel
theorem dX5_readDoor_120 : decode cX5_readDoor 120 = .ok (.getfield 174, 3) := by decide +kernel
theorem dX5_readDoor_123 : decode cX5_readDoor 123 = .ok (.iconst 1, 1) := by decide +kernel
theorem dX5_readDoor_124 : decode cX5_readDoor 124 = .ok (.iadd, 1) := by decide +kernel
theorem dX5_readDoor_125 : decode cX5_readDoor 125 = .ok (.putfield 174, 3) := by decide +kernel
theorem dX5_readDoor_128 : decode cX5_readDoor 128 = .ok (.iconst 1, 1) := by decide +kernel
theorem dX5_readDoor_129 : decode cX5_readDoor 129 = .ok (.ireturn, 1) := by decide +kernel
theorem dX5_readOther_0 : decode cX5_readOther 0 = .ok (.iconst (-1), 1) := by decide +kernel
theorem dX5_readOther_1 : decode cX5_readOther 1 = .ok (.istore_n 2, 1) := by decide +kernel
theorem dX5_readOther_2 : decode cX5_readOther 2 = .ok (.aload_n 0, 1) := by decide +kernel
theorem dX5_readOther_3 : decode cX5_readOther 3 = .ok (.getfield 30, 3) := by decide +kernel
theorem dX5_readOther_6 : decode cX5_readOther 6 = .ok (.getfield 63, 3) := by decide +kernel
theorem dX5_readOther_9 : decode cX5_readOther 9 = .ok (.getstatic 199, 3) := by decide +kernel
theorem dX5_readOther_12 : decode cX5_readOther 12 = .ok (.if_acmp .eq 43, 3) := by decide +kernel
theorem dX5_readOther_15 : decode cX5_readOther 15 = .ok (.aload_n 0, 1) := by decide +kernel
theorem dX5_readOther_16 : decode cX5_readOther 16 = .ok (.invokevirtual 177, 3) := by decide +kernel
theorem dX5_readOther_19 : decode cX5_readOther 19 = .ok (.ifCond .ne 5, 3) := by decide +kernel
theorem dX5_readOther_22 : decode cX5_readOther 22 = .ok (.iconst 0, 1) := by decide +kernel
theorem dX5_readOther_23 : decode cX5_readOther 23 = .ok (.ireturn, 1) := by decide +kernel
theorem dX5_readOther_24 : decode cX5_readOther 24 = .ok (.aload_n 0, 1) := by decide +kernel
theorem dX5_readOther_25 : decode cX5_readOther 25 = .ok (.aload_n 0, 1) := by decide +kernel
theorem dX5_readOther_26 : decode cX5_readOther 26 = .ok (.getfield 30, 3) := by decide +kernel
theorem dX5_readOther_29 : decode cX5_readOther 29 = .ok (.getfield 160, 3) := by decide +kernel
theorem dX5_readOther_32 : decode cX5_readOther 32 = .ok (.invokevirtual 183, 3) := by decide +kernel
theorem dX5_readOther_35 : decode cX5_readOther 35 = .ok (.istore_n 2, 1) := by decide +kernel
theorem dX5_readOther_36 : decode cX5_readOther 36 = .ok (.iload_n 2, 1) := by decide +kernel
theorem dX5_readOther_37 : decode cX5_readOther 37 = .ok (.aload_n 0, 1) := by decide +kernel
theorem dX5_readOther_38 : decode cX5_readOther 38 = .ok (.getfield 12, 3) := by decide +kernel
theorem dX5_readOther_41 : decode cX5_readOther 41 = .ok (.getfield 180, 3) := by decide +kernel
theorem dX5_readOther_44 : decode cX5_readOther 44 = .ok (.iload_n 1, 1) := by decide +kernel
theorem dX5_readOther_45 : decode cX5_readOther 45 = .ok (.iaload, 1) := by decide +kernel
theorem dX5_readOther_46 : decode cX5_readOther 46 = .ok (.if_icmp .ne 9, 3) := by decide +kernel
theorem dX5_readOther_49 : decode cX5_readOther 49 = .ok (.aload_n 0, 1) := by decide +kernel
theorem dX5_readOther_50 : decode cX5_readOther 50 = .ok (.iconst 3, 1) := by decide +kernel
theorem dX5_readOther_51 : decode cX5_readOther 51 = .ok (.invokevirtual 109, 3) := by decide +kernel
theorem dX5_readOther_54 : decode cX5_readOther 54 = .ok (.ireturn, 1) := by decide +kernel
theorem dX5_readOther_55 : decode cX5_readOther 55 = .ok (.aload_n 0, 1) := by decide +kernel
theorem dX5_readOther_56 : decode cX5_readOther 56 = .ok (.getfield 12, 3) := by decide +kernel
theorem dX5_readOther_59 : decode cX5_readOther 59 = .ok (.getfield 202, 3) := by decide +kernel
theorem dX5_readOther_62 : decode cX5_readOther 62 = .ok (.iload_n 1, 1) := by decide +kernel
theorem dX5_readOther_63 : decode cX5_readOther 63 = .ok (.iload_n 2, 1) := by decide +kernel
theorem dX5_readOther_64 : decode cX5_readOther 64 = .ok (.iastore, 1) := by decide +kernel
theorem dX5_readOther_65 : decode cX5_readOther 65 = .ok (.aload_n 0, 1) := by decide +kernel
theorem dX5_readOther_66 : decode cX5_readOther 66 = .ok (.getfield 30, 3) := by decide +kernel
theorem dX5_readOther_69 : decode cX5_readOther 69 = .ok (.invokevirtual 42, 3) := by decide +kernel
theorem dX5_readOther_72 : decode cX5_readOther 72 = .ok (.iconst 1, 1) := by decide +kernel
theorem dX5_readOther_73 : decode cX5_readOther 73 = .ok (.ireturn, 1) := by decide +kernel
theorem dX5_readMan_0 : decode cX5_readMan 0 = .ok (.aload_n 0, 1) := by decide +kernel
theorem dX5_readMan_1 : decode cX5_readMan 1 = .ok (.getfield 12, 3) := by decide +kernel
theorem dX5_readMan_4 : decode cX5_readMan 4 = .ok (.getfield 205, 3) := by decide +kernel
theorem dX5_readMan_7 : decode cX5_readMan 7 = .ok (.istore_n 1, 1) := by decide +kernel
theorem dX5_readMan_8 : decode cX5_readMan 8 = .ok (.iload_n 1, 1) := by decide +kernel
theorem dX5_readMan_9 : decode cX5_readMan 9 = .ok (.bipush 6, 2) := by decide +kernel
theorem dX5_readMan_11 : decode cX5_readMan 11 = .ok (.if_icmp .lt 9, 3) := by decide +kernel
theorem dX5_readMan_14 : decode cX5_readMan 14 = .ok (.aload_n 0, 1) := by decide +kernel
theorem dX5_readMan_15 : decode cX5_readMan 15 = .ok (.iconst 5, 1) := by decide +kernel
theorem dX5_readMan_16 : decode cX5_readMan 16 = .ok (.invokevirtual 109, 3) := by decide +kernel
theorem dX5_readMan_19 : decode cX5_readMan 19 = .ok (.ireturn, 1) := by decide +kernel
theorem dX5_readMan_20 : decode cX5_readMan 20 = .ok (.aload_n 0, 1) := by decide +kernel
theorem dX5_readMan_21 : decode cX5_readMan 21 = .ok (.getfield 30, 3) := by decide +kernel
theorem dX5_readMan_24 : decode cX5_readMan 24 = .ok (.invokevirtual 42, 3) := by decide +kernel
theorem dX5_readMan_27 : decode cX5_readMan 27 = .ok (.aload_n 0, 1) := by decide +kernel
theorem dX5_readMan_28 : decode cX5_readMan 28 = .ok (.invokevirtual 157, 3) := by decide +kernel
theorem dX5_readMan_31 : decode cX5_readMan 31 = .ok (.ifCond .ne 5, 3) := by decide +kernel
theorem dX5_readMan_34 : decode cX5_readMan 34 = .ok (.iconst 0, 1) := by decide +kernel
theorem dX5_readMan_35 : decode cX5_readMan 35 = .ok (.ireturn, 1) := by decide +kernel
theorem dX5_readMan_36 : decode cX5_readMan 36 = .ok (.aload_n 0, 1) := by decide +kernel
theorem dX5_readMan_37 : decode cX5_readMan 37 = .ok (.getfield 22, 3) := by decide +kernel
theorem dX5_readMan_40 : decode cX5_readMan 40 = .ok (.iload_n 1, 1) := by decide +kernel
theorem dX5_readMan_41 : decode cX5_readMan 41 = .ok (.aload_n 0, 1) := by decide +kernel
theorem dX5_readMan_42 : decode cX5_readMan 42 = .ok (.getfield 30, 3) := by decide +kernel
theorem dX5_readMan_45 : decode cX5_readMan 45 = .ok (.getfield 160, 3) := by decide +kernel
theorem dX5_readMan_48 : decode cX5_readMan 48 = .ok (.lastore, 1) := by decide +kernel
theorem dX5_readMan_49 : decode cX5_readMan 49 = .ok (.aload_n 0, 1) := by decide +kernel
theorem dX5_readMan_50 : decode cX5_readMan 50 = .ok (.getfield 30, 3) := by decide +kernel
theorem dX5_readMan_53 : decode cX5_readMan 53 = .ok (.invokevirtual 42, 3) := by decide +kernel
theorem dX5_readMan_56 : decode cX5_readMan 56 = .ok (.aload_n 0, 1) := by decide +kernel
theorem dX5_readMan_57 : decode cX5_readMan 57 = .ok (.getstatic 208, 3) := by decide +kernel
theorem dX5_readMan_60 : decode cX5_readMan 60 = .ok (.invokevirtual 167, 3) := by decide +kernel
theorem dX5_readMan_63 : decode cX5_readMan 63 = .ok (.ifCond .eq 10, 3) := by decide +kernel
theorem dX5_readMan_66 : decode cX5_readMan 66 = .ok (.aload_n 0, 1) := by decide +kernel
theorem dX5_readMan_67 : decode cX5_readMan 67 = .ok (.invokevirtual 177, 3) := by decide +kernel
theorem dX5_readMan_70 : decode cX5_readMan 70 = .ok (.ifCond .ne 5, 3) := by decide +kernel
theorem dX5_readMan_73 : decode cX5_readMan 73 = .ok (.iconst 0, 1) := by decide +kernel
theorem dX5_readMan_74 : decode cX5_readMan 74 = .ok (.ireturn, 1) := by decide +kernel
theorem dX5_readMan_75 : decode cX5_readMan 75 = .ok (.aload_n 0, 1) := by decide +kernel
theorem dX5_readMan_76 : decode cX5_readMan 76 = .ok (.getfield 12, 3) := by decide +kernel
theorem dX5_readMan_79 : decode cX5_readMan 79 = .ok (.getfield 211, 3) := by decide +kernel
theorem dX5_readMan_82 : decode cX5_readMan 82 = .ok (.iload_n 1, 1) := by decide +kernel
theorem dX5_readMan_83 : decode cX5_readMan 83 = .ok (.aload_n 0, 1) := by decide +kernel
theorem dX5_readMan_84 : decode cX5_readMan 84 = .ok (.aload_n 0, 1) := by decide +kernel
theorem dX5_readMan_85 : decode cX5_readMan 85 = .ok (.getfield 30, 3) := by decide +kernel
theorem dX5_readMan_88 : decode cX5_readMan 88 = .ok (.getfield 160, 3) := by decide +kernel
theorem dX5_readMan_91 : decode cX5_readMan 91 = .ok (.invokevirtual 183, 3) := by decide +kernel
theorem dX5_readMan_94 : decode cX5_readMan 94 = .ok (.iastore, 1) := by decide +kernel
theorem dX5_readMan_95 : decode cX5_readMan 95 = .ok (.aload_n 0, 1) := by decide +kernel
theorem dX5_readMan_96 : decode cX5_readMan 96 = .ok (.getfield 30, 3) := by decide +kernel
theorem dX5_readMan_99 : decode cX5_readMan 99 = .ok (.invokevirtual 42, 3) := by decide +kernel
theorem dX5_readMan_102 : decode cX5_readMan 102 = .ok (.aload_n 0, 1) := by decide +kernel
theorem dX5_readMan_103 : decode cX5_readMan 103 = .ok (.getstatic 214, 3) := by decide +kernel
theorem dX5_readMan_106 : decode cX5_readMan 106 = .ok (.invokevirtual 167, 3) := by decide +kernel
theorem dX5_readMan_109 : decode cX5_readMan 109 = .ok (.ifCond .eq 12, 3) := by decide +kernel
theorem dX5_readMan_112 : decode cX5_readMan 112 = .ok (.aload_n 0, 1) := by decide +kernel
theorem dX5_readMan_113 : decode cX5_readMan 113 = .ok (.bipush 9, 2) := by decide +kernel
theorem dX5_readMan_115 : decode cX5_readMan 115 = .ok (.invokevirtual 145, 3) := by decide +kernel
theorem dX5_readMan_118 : decode cX5_readMan 118 = .ok (.ifCond .ne 5, 3) := by decide +kernel
theorem dX5_readMan_121 : decode cX5_readMan 121 = .ok (.iconst 0, 1) := by decide +kernel
theorem dX5_readMan_122 : decode cX5_readMan 122 = .ok (.ireturn, 1) := by decide +kernel
theorem dX5_readMan_123 : decode cX5_readMan 123 = .ok (.aload_n 0, 1) := by decide +kernel
theorem dX5_readMan_124 : decode cX5_readMan 124 = .ok (.getfield 12, 3) := by decide +kernel
theorem dX5_readMan_127 : decode cX5_readMan 127 = .ok (.getfield 217, 3) := by decide +kernel
theorem dX5_readMan_130 : decode cX5_readMan 130 = .ok (.iload_n 1, 1) := by decide +kernel
theorem dX5_readMan_131 : decode cX5_readMan 131 = .ok (.aload_n 0, 1) := by decide +kernel
theorem dX5_readMan_132 : decode cX5_readMan 132 = .ok (.getfield 148, 3) := by decide +kernel
theorem dX5_readMan_135 : decode cX5_readMan 135 = .ok (.iastore, 1) := by decide +kernel
theorem dX5_readMan_136 : decode cX5_readMan 136 = .ok (.aload_n 0, 1) := by decide +kernel
theorem dX5_readMan_137 : decode cX5_readMan 137 = .ok (.getstatic 220, 3) := by decide +kernel
theorem dX5_readMan_140 : decode cX5_readMan 140 = .ok (.invokevirtual 167, 3) := by decide +kernel
theorem dX5_readMan_143 : decode cX5_readMan 143 = .ok (.ifCond .eq 12, 3) := by decide +kernel
theorem dX5_readMan_146 : decode cX5_readMan 146 = .ok (.aload_n 0, 1) := by decide +kernel
theorem dX5_readMan_147 : decode cX5_readMan 147 = .ok (.bipush 99, 2) := by decide +kernel
theorem dX5_readMan_149 : decode cX5_readMan 149 = .ok (.invokevirtual 145, 3) := by decide +kernel
theorem dX5_readMan_152 : decode cX5_readMan 152 = .ok (.ifCond .ne 5, 3) := by decide +kernel
theorem dX5_readMan_155 : decode cX5_readMan 155 = .ok (.iconst 0, 1) := by decide +kernel
theorem dX5_readMan_156 : decode cX5_readMan 156 = .ok (.ireturn, 1) := by decide +kernel
theorem dX5_readMan_157 : decode cX5_readMan 157 = .ok (.aload_n 0, 1) := by decide +kernel
theorem dX5_readMan_158 : decode cX5_readMan 158 = .ok (.getfield 12, 3) := by decide +kernel
theorem dX5_readMan_161 : decode cX5_readMan 161 = .ok (.getfield 223, 3) := by decide +kernel
theorem dX5_readMan_164 : decode cX5_readMan 164 = .ok (.iload_n 1, 1) := by decide +kernel
theorem dX5_readMan_165 : decode cX5_readMan 165 = .ok (.aload_n 0, 1) := by decide +kernel
theorem dX5_readMan_166 : decode cX5_readMan 166 = .ok (.getfield 148, 3) := by decide +kernel
theorem dX5_readMan_169 : decode cX5_readMan 169 = .ok (.iastore, 1) := by decide +kernel
theorem dX5_readMan_170 : decode cX5_readMan 170 = .ok (.aload_n 0, 1) := by decide +kernel
theorem dX5_readMan_171 : decode cX5_readMan 171 = .ok (.getfield 12, 3) := by decide +kernel
theorem dX5_readMan_174 : decode cX5_readMan 174 = .ok (.dup, 1) := by decide +kernel
theorem dX5_readMan_175 : decode cX5_readMan 175 = .ok (.getfield 205, 3) := by decide +kernel
theorem dX5_readMan_178 : decode cX5_readMan 178 = .ok (.iconst 1, 1) := by decide +kernel
theorem dX5_readMan_179 : decode cX5_readMan 179 = .ok (.iadd, 1) := by decide +kernel
theorem dX5_readMan_180 : decode cX5_readMan 180 = .ok (.putfield 205, 3) := by decide +kernel
theorem dX5_readMan_183 : decode cX5_readMan 183 = .ok (.iconst 1, 1) := by decide +kernel
theorem dX5_readMan_184 : decode cX5_readMan 184 = .ok (.ireturn, 1) := by decide +kernel
theorem dX5_readGuard_0 : decode cX5_readGuard 0 = .ok (.aload_n 0, 1) := by decide +kernel
theorem dX5_readGuard_1 : decode cX5_readGuard 1 = .ok (.getfield 12, 3) := by decide +kernel
theorem dX5_readGuard_4 : decode cX5_readGuard 4 = .ok (.getfield 226, 3) := by decide +kernel
theorem dX5_readGuard_7 : decode cX5_readGuard 7 = .ok (.istore_n 1, 1) := by decide +kernel
theorem dX5_readGuard_8 : decode cX5_readGuard 8 = .ok (.iload_n 1, 1) := by decide +kernel
theorem dX5_readGuard_9 : decode cX5_readGuard 9 = .ok (.iconst 2, 1) := by decide +kernel
theorem dX5_readGuard_10 : decode cX5_readGuard 10 = .ok (.if_icmp .lt 9, 3) := by decide +kernel
theorem dX5_readGuard_13 : decode cX5_readGuard 13 = .ok (.aload_n 0, 1) := by decide +kernel
theorem dX5_readGuard_14 : decode cX5_readGuard 14 = .ok (.iconst 5, 1) := by decide +kernel
theorem dX5_readGuard_15 : decode cX5_readGuard 15 = .ok (.invokevirtual 109, 3) := by decide +kernel
theorem dX5_readGuard_18 : decode cX5_readGuard 18 = .ok (.ireturn, 1) := by decide +kernel
theorem dX5_readGuard_19 : decode cX5_readGuard 19 = .ok (.aload_n 0, 1) := by decide +kernel
theorem dX5_readGuard_20 : decode cX5_readGuard 20 = .ok (.getfield 30, 3) := by decide +kernel
theorem dX5_readGuard_23 : decode cX5_readGuard 23 = .ok (.invokevirtual 42, 3) := by decide +kernel
theorem dX5_readGuard_26 : decode cX5_readGuard 26 = .ok (.iconst 0, 1) := by decide +kernel
theorem dX5_readGuard_27 : decode cX5_readGuard 27 = .ok (.istore_n 2, 1) := by decide +kernel
theorem dX5_readGuard_28 : decode cX5_readGuard 28 = .ok (.iload_n 2, 1) := by decide +kernel
theorem dX5_readGuard_29 : decode cX5_readGuard 29 = .ok (.bipush 8, 2) := by decide +kernel
theorem dX5_readGuard_31 : decode cX5_readGuard 31 = .ok (.if_icmp .ge 64, 3) := by decide +kernel
theorem dX5_readGuard_34 : decode cX5_readGuard 34 = .ok (.iload_n 2, 1) := by decide +kernel
theorem dX5_readGuard_35 : decode cX5_readGuard 35 = .ok (.ifCond .eq 13, 3) := by decide +kernel
theorem dX5_readGuard_38 : decode cX5_readGuard 38 = .ok (.aload_n 0, 1) := by decide +kernel
theorem dX5_readGuard_39 : decode cX5_readGuard 39 = .ok (.getfield 30, 3) := by decide +kernel
theorem dX5_readGuard_42 : decode cX5_readGuard 42 = .ok (.invokevirtual 229, 3) := by decide +kernel
theorem dX5_readGuard_45 : decode cX5_readGuard 45 = .ok (.ifCond .eq 50, 3) := by decide +kernel
theorem dX5_readGuard_48 : decode cX5_readGuard 48 = .ok (.aload_n 0, 1) := by decide +kernel
theorem dX5_readGuard_49 : decode cX5_readGuard 49 = .ok (.invokevirtual 177, 3) := by decide +kernel
theorem dX5_readGuard_52 : decode cX5_readGuard 52 = .ok (.ifCond .ne 5, 3) := by decide +kernel
theorem dX5_readGuard_55 : decode cX5_readGuard 55 = .ok (.iconst 0, 1) := by decide +kernel
theorem dX5_readGuard_56 : decode cX5_readGuard 56 = .ok (.ireturn, 1) := by decide +kernel
theorem dX5_readGuard_57 : decode cX5_readGuard 57 = .ok (.aload_n 0, 1) := by decide +kernel
theorem dX5_readGuard_58 : decode cX5_readGuard 58 = .ok (.getfield 12, 3) := by decide +kernel
theorem dX5_readGuard_61 : decode cX5_readGuard 61 = .ok (.getfield 232, 3) := by decide +kernel
theorem dX5_readGuard_64 : decode cX5_readGuard 64 = .ok (.iload_n 1, 1) := by decide +kernel
theorem dX5_readGuard_65 : decode cX5_readGuard 65 = .ok (.bipush 8, 2) := by decide +kernel
theorem dX5_readGuard_67 : decode cX5_readGuard 67 = .ok (.imul, 1) := by decide +kernel
theorem dX5_readGuard_68 : decode cX5_readGuard 68 = .ok (.iload_n 2, 1) := by decide +kernel
theorem dX5_readGuard_69 : decode cX5_readGuard 69 = .ok (.iadd, 1) := by decide +kernel
theorem dX5_readGuard_70 : decode cX5_readGuard 70 = .ok (.aload_n 0, 1) := by decide +kernel
theorem dX5_readGuard_71 : decode cX5_readGuard 71 = .ok (.aload_n 0, 1) := by decide +kernel
theorem dX5_readGuard_72 : decode cX5_readGuard 72 = .ok (.getfield 30, 3) := by decide +kernel
theorem dX5_readGuard_75 : decode cX5_readGuard 75 = .ok (.getfield 160, 3) := by decide +kernel
theorem dX5_readGuard_78 : decode cX5_readGuard 78 = .ok (.invokevirtual 183, 3) := by decide +kernel
theorem dX5_readGuard_81 : decode cX5_readGuard 81 = .ok (.iastore, 1) := by decide +kernel
theorem dX5_readGuard_82 : decode cX5_readGuard 82 = .ok (.iinc 2 1, 3) := by decide +kernel
theorem dX5_readGuard_85 : decode cX5_readGuard 85 = .ok (.aload_n 0, 1) := by decide +kernel
theorem dX5_readGuard_86 : decode cX5_readGuard 86 = .ok (.getfield 30, 3) := by decide +kernel
theorem dX5_readGuard_89 : decode cX5_readGuard 89 = .ok (.invokevirtual 42, 3) := by decide +kernel
theorem dX5_readGuard_92 : decode cX5_readGuard 92 = .ok (.goto (-64), 3) := by decide +kernel
theorem dX5_readGuard_95 : decode cX5_readGuard 95 = .ok (.aload_n 0, 1) := by decide +kernel
theorem dX5_readGuard_96 : decode cX5_readGuard 96 = .ok (.getfield 30, 3) := by decide +kernel
theorem dX5_readGuard_99 : decode cX5_readGuard 99 = .ok (.invokevirtual 229, 3) := by decide +kernel
theorem dX5_readGuard_102 : decode cX5_readGuard 102 = .ok (.ifCond .eq 24, 3) := by decide +kernel
theorem dX5_readGuard_105 : decode cX5_readGuard 105 = .ok (.aload_n 0, 1) := by decide +kernel
theorem dX5_readGuard_106 : decode cX5_readGuard 106 = .ok (.invokevirtual 177, 3) := by decide +kernel
theorem dX5_readGuard_109 : decode cX5_readGuard 109 = .ok (.ifCond .eq 15, 3) := by decide +kernel
theorem dX5_readGuard_112 : decode cX5_readGuard 112 = .ok (.aload_n 0, 1) := by decide +kernel
theorem dX5_readGuard_113 : decode cX5_readGuard 113 = .ok (.iconst 5, 1) := by decide +kernel
theorem dX5_readGuard_114 : decode cX5_readGuard 114 = .ok (.invokevirtual 109, 3) := by decide +kernel
theorem dX5_readGuard_117 : decode cX5_readGuard 117 = .ok (.ifCond .eq 7, 3) := by decide +kernel
theorem dX5_readGuard_120 : decode cX5_readGuard 120 = .ok (.iconst 1, 1) := by decide +kernel
theorem dX5_readGuard_121 : decode cX5_readGuard 121 = .ok (.goto 4, 3) := by decide +kernel
theorem dX5_readGuard_124 : decode cX5_readGuard 124 = .ok (.iconst 0, 1) := by decide +kernel
theorem dX5_readGuard_125 : decode cX5_readGuard 125 = .ok (.ireturn, 1) := by decide +kernel
theorem dX5_readGuard_126 : decode cX5_readGuard 126 = .ok (.aload_n 0, 1) := by decide +kernel
theorem dX5_readGuard_127 : decode cX5_readGuard 127 = .ok (.getfield 12, 3) := by decide +kernel
theorem dX5_readGuard_130 : decode cX5_readGuard 130 = .ok (.getfield 235, 3) := by decide +kernel
theorem dX5_readGuard_133 : decode cX5_readGuard 133 = .ok (.iload_n 1, 1) := by decide +kernel
theorem dX5_readGuard_134 : decode cX5_readGuard 134 = .ok (.iload_n 2, 1) := by decide +kernel
theorem dX5_readGuard_135 : decode cX5_readGuard 135 = .ok (.iastore, 1) := by decide +kernel
theorem dX5_readGuard_136 : decode cX5_readGuard 136 = .ok (.aload_n 0, 1) := by decide +kernel
theorem dX5_readGuard_137 : decode cX5_readGuard 137 = .ok (.getfield 12, 3) := by decide +kernel
theorem dX5_readGuard_140 : decode cX5_readGuard 140 = .ok (.dup, 1) := by decide +kernel
theorem dX5_readGuard_141 : decode cX5_readGuard 141 = .ok (.getfield 226, 3) := by decide +kernel
theorem dX5_readGuard_144 : decode cX5_readGuard 144 = .ok (.iconst 1, 1) := by decide +kernel
theorem dX5_readGuard_145 : decode cX5_readGuard 145 = .ok (.iadd, 1) := by decide +kernel
theorem dX5_readGuard_146 : decode cX5_readGuard 146 = .ok (.putfield 226, 3) := by decide +kernel
theorem dX5_readGuard_149 : decode cX5_readGuard 149 = .ok (.iconst 1, 1) := by decide +kernel
theorem dX5_readGuard_150 : decode cX5_readGuard 150 = .ok (.ireturn, 1) := by decide +kernel
theorem dX5_readSign_0 : decode cX5_readSign 0 = .ok (.aload_n 0, 1) := by decide +kernel
theorem dX5_readSign_1 : decode cX5_readSign 1 = .ok (.getfield 30, 3) := by decide +kernel
theorem dX5_readSign_4 : decode cX5_readSign 4 = .ok (.iload_n 1, 1) := by decide +kernel
theorem dX5_readSign_5 : decode cX5_readSign 5 = .ok (.invokevirtual 238, 3) := by decide +kernel
theorem dX5_readSign_8 : decode cX5_readSign 8 = .ok (.ifCond .ne 9, 3) := by decide +kernel
theorem dX5_readSign_11 : decode cX5_readSign 11 = .ok (.aload_n 0, 1) := by decide +kernel
theorem dX5_readSign_12 : decode cX5_readSign 12 = .ok (.iconst 1, 1) := by decide +kernel
theorem dX5_readSign_13 : decode cX5_readSign 13 = .ok (.invokevirtual 109, 3) := by decide +kernel
theorem dX5_readSign_16 : decode cX5_readSign 16 = .ok (.ireturn, 1) := by decide +kernel
theorem dX5_readSign_17 : decode cX5_readSign 17 = .ok (.aload_n 0, 1) := by decide +kernel
theorem dX5_readSign_18 : decode cX5_readSign 18 = .ok (.getfield 30, 3) := by decide +kernel
theorem dX5_readSign_21 : decode cX5_readSign 21 = .ok (.invokevirtual 42, 3) := by decide +kernel
theorem dX5_readSign_24 : decode cX5_readSign 24 = .ok (.iconst 1, 1) := by decide +kernel
theorem dX5_readSign_25 : decode cX5_readSign 25 = .ok (.ireturn, 1) := by decide +kernel
theorem dX5_readWord_0 : decode cX5_readWord 0 = .ok (.aload_n 0, 1) := by decide +kernel
theorem dX5_readWord_1 : decode cX5_readWord 1 = .ok (.getfield 30, 3) := by decide +kernel
theorem dX5_readWord_4 : decode cX5_readWord 4 = .ok (.getfield 63, 3) := by decide +kernel
theorem dX5_readWord_7 : decode cX5_readWord 7 = .ok (.aload_n 1, 1) := by decide +kernel
theorem dX5_readWord_8 : decode cX5_readWord 8 = .ok (.if_acmp .eq 9, 3) := by decide +kernel
theorem dX5_readWord_11 : decode cX5_readWord 11 = .ok (.aload_n 0, 1) := by decide +kernel
theorem dX5_readWord_12 : decode cX5_readWord 12 = .ok (.iconst 1, 1) := by decide +kernel
theorem dX5_readWord_13 : decode cX5_readWord 13 = .ok (.invokevirtual 109, 3) := by decide +kernel
theorem dX5_readWord_16 : decode cX5_readWord 16 = .ok (.ireturn, 1) := by decide +kernel
theorem dX5_readWord_17 : decode cX5_readWord 17 = .ok (.aload_n 0, 1) := by decide +kernel
theorem dX5_readWord_18 : decode cX5_readWord 18 = .ok (.getfield 30, 3) := by decide +kernel
theorem dX5_readWord_21 : decode cX5_readWord 21 = .ok (.invokevirtual 42, 3) := by decide +kernel
theorem dX5_readWord_24 : decode cX5_readWord 24 = .ok (.iconst 1, 1) := by decide +kernel
theorem dX5_readWord_25 : decode cX5_readWord 25 = .ok (.ireturn, 1) := by decide +kernel
theorem dX5_readNumber_0 : decode cX5_readNumber 0 = .ok (.aload_n 0, 1) := by decide +kernel
theorem dX5_readNumber_1 : decode cX5_readNumber 1 = .ok (.getfield 30, 3) := by decide +kernel
theorem dX5_readNumber_4 : decode cX5_readNumber 4 = .ok (.getfield 47, 3) := by decide +kernel
theorem dX5_readNumber_7 : decode cX5_readNumber 7 = .ok (.iconst 3, 1) := by decide +kernel
theorem dX5_readNumber_8 : decode cX5_readNumber 8 = .ok (.if_icmp .eq 9, 3) := by decide +kernel
theorem dX5_readNumber_11 : decode cX5_readNumber 11 = .ok (.aload_n 0, 1) := by decide +kernel
theorem dX5_readNumber_12 : decode cX5_readNumber 12 = .ok (.iconst 1, 1) := by decide +kernel
theorem dX5_readNumber_13 : decode cX5_readNumber 13 = .ok (.invokevirtual 109, 3) := by decide +kernel
theorem dX5_readNumber_16 : decode cX5_readNumber 16 = .ok (.ireturn, 1) := by decide +kernel
theorem dX5_readNumber_17 : decode cX5_readNumber 17 = .ok (.aload_n 0, 1) := by decide +kernel
theorem dX5_readNumber_18 : decode cX5_readNumber 18 = .ok (.getfield 30, 3) := by decide +kernel
theorem dX5_readNumber_21 : decode cX5_readNumber 21 = .ok (.getfield 241, 3) := by decide +kernel
theorem dX5_readNumber_24 : decode cX5_readNumber 24 = .ok (.iload_n 1, 1) := by decide +kernel
theorem dX5_readNumber_25 : decode cX5_readNumber 25 = .ok (.if_icmp .le 9, 3) := by decide +kernel
theorem dX5_readNumber_28 : decode cX5_readNumber 28 = .ok (.aload_n 0, 1) := by decide +kernel
theorem dX5_readNumber_29 : decode cX5_readNumber 29 = .ok (.iconst 4, 1) := by decide +kernel
theorem dX5_readNumber_30 : decode cX5_readNumber 30 = .ok (.invokevirtual 109, 3) := by decide +kernel
theorem dX5_readNumber_33 : decode cX5_readNumber 33 = .ok (.ireturn, 1) := by decide +kernel
theorem dX5_readNumber_34 : decode cX5_readNumber 34 = .ok (.aload_n 0, 1) := by decide +kernel
theorem dX5_readNumber_35 : decode cX5_readNumber 35 = .ok (.aload_n 0, 1) := by decide +kernel
theorem dX5_readNumber_36 : decode cX5_readNumber 36 = .ok (.getfield 30, 3) := by decide +kernel
theorem dX5_readNumber_39 : decode cX5_readNumber 39 = .ok (.getfield 241, 3) := by decide +kernel
theorem dX5_readNumber_42 : decode cX5_readNumber 42 = .ok (.putfield 148, 3) := by decide +kernel
theorem dX5_readNumber_45 : decode cX5_readNumber 45 = .ok (.aload_n 0, 1) := by decide +kernel
theorem dX5_readNumber_46 : decode cX5_readNumber 46 = .ok (.getfield 30, 3) := by decide +kernel
theorem dX5_readNumber_49 : decode cX5_readNumber 49 = .ok (.invokevirtual 42, 3) := by decide +kernel
theorem dX5_readNumber_52 : decode cX5_readNumber 52 = .ok (.iconst 1, 1) := by decide +kernel
theorem dX5_readNumber_53 : decode cX5_readNumber 53 = .ok (.ireturn, 1) := by decide +kernel
theorem dX5_isNewName_0 : decode cX5_isNewName 0 = .ok (.aload_n 0, 1) := by decide +kernel
theorem dX5_isNewName_1 : decode cX5_isNewName 1 = .ok (.getfield 30, 3) := by decide +kernel
theorem dX5_isNewName_4 : decode cX5_isNewName 4 = .ok (.invokevirtual 229, 3) := by decide +kernel
theorem dX5_isNewName_7 : decode cX5_isNewName 7 = .ok (.ifCond .ne 9, 3) := by decide +kernel
theorem dX5_isNewName_10 : decode cX5_isNewName 10 = .ok (.aload_n 0, 1) := by decide +kernel
theorem dX5_isNewName_11 : decode cX5_isNewName 11 = .ok (.iconst 1, 1) := by decide +kernel
theorem dX5_isNewName_12 : decode cX5_isNewName 12 = .ok (.invokevirtual 109, 3) := by decide +kernel
theorem dX5_isNewName_15 : decode cX5_isNewName 15 = .ok (.ireturn, 1) := by decide +kernel
theorem dX5_isNewName_16 : decode cX5_isNewName 16 = .ok (.aload_n 0, 1) := by decide +kernel
theorem dX5_isNewName_17 : decode cX5_isNewName 17 = .ok (.aload_n 0, 1) := by decide +kernel
theorem dX5_isNewName_18 : decode cX5_isNewName 18 = .ok (.getfield 30, 3) := by decide +kernel
theorem dX5_isNewName_21 : decode cX5_isNewName 21 = .ok (.getfield 160, 3) := by decide +kernel
theorem dX5_isNewName_24 : decode cX5_isNewName 24 = .ok (.invokevirtual 183, 3) := by decide +kernel
theorem dX5_isNewName_27 : decode cX5_isNewName 27 = .ok (.iconst (-1), 1) := by decide +kernel
theorem dX5_isNewName_28 : decode cX5_isNewName 28 = .ok (.if_icmp .eq 7, 3) := by decide +kernel
theorem dX5_isNewName_31 : decode cX5_isNewName 31 = .ok (.iconst 1, 1) := by decide +kernel
theorem dX5_isNewName_32 : decode cX5_isNewName 32 = .ok (.goto 4, 3) := by decide +kernel
theorem dX5_isNewName_35 : decode cX5_isNewName 35 = .ok (.iconst 0, 1) := by decide +kernel
theorem dX5_isNewName_36 : decode cX5_isNewName 36 = .ok (.istore_n 1, 1) := by decide +kernel
theorem dX5_isNewName_37 : decode cX5_isNewName 37 = .ok (.iconst 0, 1) := by decide +kernel
theorem dX5_isNewName_38 : decode cX5_isNewName 38 = .ok (.istore_n 2, 1) := by decide +kernel
theorem dX5_isNewName_39 : decode cX5_isNewName 39 = .ok (.iload_n 2, 1) := by decide +kernel
theorem dX5_isNewName_40 : decode cX5_isNewName 40 = .ok (.aload_n 0, 1) := by decide +kernel
theorem dX5_isNewName_41 : decode cX5_isNewName 41 = .ok (.getfield 12, 3) := by decide +kernel
theorem dX5_isNewName_44 : decode cX5_isNewName 44 = .ok (.getfield 205, 3) := by decide +kernel
theorem dX5_isNewName_47 : decode cX5_isNewName 47 = .ok (.if_icmp .ge 36, 3) := by decide +kernel
theorem dX5_isNewName_50 : decode cX5_isNewName 50 = .ok (.iload_n 1, 1) := by decide +kernel
theorem dX5_isNewName_51 : decode cX5_isNewName 51 = .ok (.ifCond .ne 20, 3) := by decide +kernel
theorem dX5_isNewName_54 : decode cX5_isNewName 54 = .ok (.aload_n 0, 1) := by decide +kernel
theorem dX5_isNewName_55 : decode cX5_isNewName 55 = .ok (.getfield 22, 3) := by decide +kernel
theorem dX5_isNewName_58 : decode cX5_isNewName 58 = .ok (.iload_n 2, 1) := by decide +kernel
theorem dX5_isNewName_59 : decode cX5_isNewName 59 = .ok (.laload, 1) := by decide +kernel
theorem dX5_isNewName_60 : decode cX5_isNewName 60 = .ok (.aload_n 0, 1) := by decide +kernel
theorem dX5_isNewName_61 : decode cX5_isNewName 61 = .ok (.getfield 30, 3) := by decide +kernel
theorem dX5_isNewName_64 : decode cX5_isNewName 64 = .ok (.getfield 160, 3) := by decide +kernel
theorem dX5_isNewName_67 : decode cX5_isNewName 67 = .ok (.lcmp, 1) := by decide +kernel
theorem dX5_isNewName_68 : decode cX5_isNewName 68 = .ok (.ifCond .ne 7, 3) := by decide +kernel
theorem dX5_isNewName_71 : decode cX5_isNewName 71 = .ok (.iconst 1, 1) := by decide +kernel
theorem dX5_isNewName_72 : decode cX5_isNewName 72 = .ok (.goto 4, 3) := by decide +kernel
theorem dX5_isNewName_75 : decode cX5_isNewName 75 = .ok (.iconst 0, 1) := by decide +kernel
theorem dX5_isNewName_76 : decode cX5_isNewName 76 = .ok (.istore_n 1, 1) := by decide +kernel
theorem dX5_isNewName_77 : decode cX5_isNewName 77 = .ok (.iinc 2 1, 3) := by decide +kernel
theorem dX5_isNewName_80 : decode cX5_isNewName 80 = .ok (.goto (-41), 3) := by decide +kernel
theorem dX5_isNewName_83 : decode cX5_isNewName 83 = .ok (.iload_n 1, 1) := by decide +kernel
theorem dX5_isNewName_84 : decode cX5_isNewName 84 = .ok (.ifCond .eq 11, 3) := by decide +kernel
theorem dX5_isNewName_87 : decode cX5_isNewName 87 = .ok (.aload_n 0, 1) := by decide +kernel
theorem dX5_isNewName_88 : decode cX5_isNewName 88 = .ok (.iconst 3, 1) := by decide +kernel
theorem dX5_isNewName_89 : decode cX5_isNewName 89 = .ok (.invokevirtual 109, 3) := by decide +kernel
theorem dX5_isNewName_92 : decode cX5_isNewName 92 = .ok (.ifCond .eq 7, 3) := by decide +kernel
theorem dX5_isNewName_95 : decode cX5_isNewName 95 = .ok (.iconst 1, 1) := by decide +kernel
theorem dX5_isNewName_96 : decode cX5_isNewName 96 = .ok (.goto 4, 3) := by decide +kernel
theorem dX5_isNewName_99 : decode cX5_isNewName 99 = .ok (.iconst 0, 1) := by decide +kernel
theorem dX5_isNewName_100 : decode cX5_isNewName 100 = .ok (.ireturn, 1) := by decide +kernel
theorem dX5_isCellName_0 : decode cX5_isCellName 0 = .ok (.aload_n 0, 1) := by decide +kernel
theorem dX5_isCellName_1 : decode cX5_isCellName 1 = .ok (.getfield 30, 3) := by decide +kernel
theorem dX5_isCellName_4 : decode cX5_isCellName 4 = .ok (.invokevirtual 229, 3) := by decide +kernel
theorem dX5_isCellName_7 : decode cX5_isCellName 7 = .ok (.ifCond .ne 9, 3) := by decide +kernel
theorem dX5_isCellName_10 : decode cX5_isCellName 10 = .ok (.aload_n 0, 1) := by decide +kernel
theorem dX5_isCellName_11 : decode cX5_isCellName 11 = .ok (.iconst 1, 1) := by decide +kernel
theorem dX5_isCellName_12 : decode cX5_isCellName 12 = .ok (.invokevirtual 109, 3) := by decide +kernel
theorem dX5_isCellName_15 : decode cX5_isCellName 15 = .ok (.ireturn, 1) := by decide +kernel
theorem dX5_isCellName_16 : decode cX5_isCellName 16 = .ok (.aload_n 0, 1) := by decide +kernel
theorem dX5_isCellName_17 : decode cX5_isCellName 17 = .ok (.aload_n 0, 1) := by decide +kernel
theorem dX5_isCellName_18 : decode cX5_isCellName 18 = .ok (.getfield 30, 3) := by decide +kernel
theorem dX5_isCellName_21 : decode cX5_isCellName 21 = .ok (.getfield 160, 3) := by decide +kernel
theorem dX5_isCellName_24 : decode cX5_isCellName 24 = .ok (.invokevirtual 183, 3) := by decide +kernel
theorem dX5_isCellName_27 : decode cX5_isCellName 27 = .ok (.iconst (-1), 1) := by decide +kernel
theorem dX5_isCellName_28 : decode cX5_isCellName 28 = .ok (.if_icmp .ne 11, 3) := by decide +kernel
theorem dX5_isCellName_31 : decode cX5_isCellName 31 = .ok (.aload_n 0, 1) := by decide +kernel
theorem dX5_isCellName_32 : decode cX5_isCellName 32 = .ok (.iconst 2, 1) := by decide +kernel
theorem dX5_isCellName_33 : decode cX5_isCellName 33 = .ok (.invokevirtual 109, 3) := by decide +kernel
theorem dX5_isCellName_36 : decode cX5_isCellName 36 = .ok (.ifCond .eq 7, 3) := by decide +kernel
theorem dX5_isCellName_39 : decode cX5_isCellName 39 = .ok (.iconst 1, 1) := by decide +kernel
theorem dX5_isCellName_40 : decode cX5_isCellName 40 = .ok (.goto 4, 3) := by decide +kernel
theorem dX5_isCellName_43 : decode cX5_isCellName 43 = .ok (.iconst 0, 1) := by decide +kernel
theorem dX5_isCellName_44 : decode cX5_isCellName 44 = .ok (.ireturn, 1) := by decide +kernel
theorem dX5_cellNamed_0 : decode cX5_cellNamed 0 = .ok (.iconst 0, 1) := by decide +kernel
theorem dX5_cellNamed_1 : decode cX5_cellNamed 1 = .ok (.istore_n 3, 1) := by decide +kernel
theorem dX5_cellNamed_2 : decode cX5_cellNamed 2 = .ok (.iload_n 3, 1) := by decide +kernel
theorem dX5_cellNamed_3 : decode cX5_cellNamed 3 = .ok (.aload_n 0, 1) := by decide +kernel
theorem dX5_cellNamed_4 : decode cX5_cellNamed 4 = .ok (.getfield 12, 3) := by decide +kernel
theorem dX5_cellNamed_7 : decode cX5_cellNamed 7 = .ok (.getfield 154, 3) := by decide +kernel
theorem dX5_cellNamed_10 : decode cX5_cellNamed 10 = .ok (.if_icmp .ge 22, 3) := by decide +kernel
theorem dX5_cellNamed_13 : decode cX5_cellNamed 13 = .ok (.aload_n 0, 1) := by decide +kernel
theorem dX5_cellNamed_14 : decode cX5_cellNamed 14 = .ok (.getfield 18, 3) := by decide +kernel
theorem dX5_cellNamed_17 : decode cX5_cellNamed 17 = .ok (.iload_n 3, 1) := by decide +kernel
theorem dX5_cellNamed_18 : decode cX5_cellNamed 18 = .ok (.laload, 1) := by decide +kernel
theorem dX5_cellNamed_19 : decode cX5_cellNamed 19 = .ok (.lload_n 1, 1) := by decide +kernel
theorem dX5_cellNamed_20 : decode cX5_cellNamed 20 = .ok (.lcmp, 1) := by decide +kernel
theorem dX5_cellNamed_21 : decode cX5_cellNamed 21 = .ok (.ifCond .ne 5, 3) := by decide +kernel
theorem dX5_cellNamed_24 : decode cX5_cellNamed 24 = .ok (.iload_n 3, 1) := by decide +kernel
theorem dX5_cellNamed_25 : decode cX5_cellNamed 25 = .ok (.ireturn, 1) := by decide +kernel
theorem dX5_cellNamed_26 : decode cX5_cellNamed 26 = .ok (.iinc 3 1, 3) := by decide +kernel
theorem dX5_cellNamed_29 : decode cX5_cellNamed 29 = .ok (.goto (-27), 3) := by decide +kernel
theorem dX5_cellNamed_32 : decode cX5_cellNamed 32 = .ok (.iconst (-1), 1) := by decide +kernel
theorem dX5_cellNamed_33 : decode cX5_cellNamed 33 = .ok (.ireturn, 1) := by decide +kernel
theorem dX5_readLevel_0 : decode cX5_readLevel 0 = .ok (.iload_n 1, 1) := by decide +kernel
theorem dX5_readLevel_1 : decode cX5_readLevel 1 = .ok (.iconst 4, 1) := by decide +kernel
theorem dX5_readLevel_2 : decode cX5_readLevel 2 = .ok (.if_icmp .lt 9, 3) := by decide +kernel
theorem dX5_readLevel_5 : decode cX5_readLevel 5 = .ok (.aload_n 0, 1) := by decide +kernel
theorem dX5_readLevel_6 : decode cX5_readLevel 6 = .ok (.iload_n 2, 1) := by decide +kernel
theorem dX5_readLevel_7 : decode cX5_readLevel 7 = .ok (.invokevirtual 242, 3) := by decide +kernel
theorem dX5_readLevel_10 : decode cX5_readLevel 10 = .ok (.ireturn, 1) := by decide +kernel
theorem dX5_readLevel_11 : decode cX5_readLevel 11 = .ok (.aload_n 0, 1) := by decide +kernel
theorem dX5_readLevel_12 : decode cX5_readLevel 12 = .ok (.iload_n 1, 1) := by decide +kernel
theorem dX5_readLevel_13 : decode cX5_readLevel 13 = .ok (.iconst 1, 1) := by decide +kernel
theorem dX5_readLevel_14 : decode cX5_readLevel 14 = .ok (.iadd, 1) := by decide +kernel
theorem dX5_readLevel_15 : decode cX5_readLevel 15 = .ok (.iload_n 2, 1) := by decide +kernel
theorem dX5_readLevel_16 : decode cX5_readLevel 16 = .ok (.invokevirtual 132, 3) := by decide +kernel
theorem dX5_readLevel_19 : decode cX5_readLevel 19 = .ok (.ifCond .ne 5, 3) := by decide +kernel
theorem dX5_readLevel_22 : decode cX5_readLevel 22 = .ok (.iconst 0, 1) := by decide +kernel
theorem dX5_readLevel_23 : decode cX5_readLevel 23 = .ok (.ireturn, 1) := by decide +kernel
theorem dX5_readLevel_24 : decode cX5_readLevel 24 = .ok (.iload_n 1, 1) := by decide +kernel
theorem dX5_readLevel_25 : decode cX5_readLevel 25 = .ok (.iconst 1, 1) := by decide +kernel
theorem dX5_readLevel_26 : decode cX5_readLevel 26 = .ok (.if_icmp .ne 7, 3) := by decide +kernel
theorem dX5_readLevel_29 : decode cX5_readLevel 29 = .ok (.iconst 1, 1) := by decide +kernel
theorem dX5_readLevel_30 : decode cX5_readLevel 30 = .ok (.goto 6, 3) := by decide +kernel
theorem dX5_readLevel_33 : decode cX5_readLevel 33 = .ok (.sipush 1000, 3) := by decide +kernel
theorem dX5_readLevel_36 : decode cX5_readLevel 36 = .ok (.istore_n 3, 1) := by decide +kernel
theorem dX5_readLevel_37 : decode cX5_readLevel 37 = .ok (.iconst 0, 1) := by decide +kernel
theorem dX5_readLevel_38 : decode cX5_readLevel 38 = .ok (.istore 4, 2) := by decide +kernel
theorem dX5_readLevel_40 : decode cX5_readLevel 40 = .ok (.iload 4, 2) := by decide +kernel
theorem dX5_readLevel_42 : decode cX5_readLevel 42 = .ok (.iload_n 3, 1) := by decide +kernel
theorem dX5_readLevel_43 : decode cX5_readLevel 43 = .ok (.if_icmp .ge 51, 3) := by decide +kernel
theorem dX5_readLevel_46 : decode cX5_readLevel 46 = .ok (.aload_n 0, 1) := by decide +kernel
theorem dX5_readLevel_47 : decode cX5_readLevel 47 = .ok (.iload_n 1, 1) := by decide +kernel
theorem dX5_readLevel_48 : decode cX5_readLevel 48 = .ok (.invokevirtual 245, 3) := by decide +kernel
theorem dX5_readLevel_51 : decode cX5_readLevel 51 = .ok (.istore 5, 2) := by decide +kernel
theorem dX5_readLevel_53 : decode cX5_readLevel 53 = .ok (.iload 5, 2) := by decide +kernel
theorem dX5_readLevel_55 : decode cX5_readLevel 55 = .ok (.iconst (-1), 1) := by decide +kernel
theorem dX5_readLevel_56 : decode cX5_readLevel 56 = .ok (.if_icmp .ne 5, 3) := by decide +kernel
theorem dX5_readLevel_59 : decode cX5_readLevel 59 = .ok (.iconst 1, 1) := by decide +kernel
theorem dX5_readLevel_60 : decode cX5_readLevel 60 = .ok (.ireturn, 1) := by decide +kernel
theorem dX5_readLevel_61 : decode cX5_readLevel 61 = .ok (.aload_n 0, 1) := by decide +kernel
theorem dX5_readLevel_62 : decode cX5_readLevel 62 = .ok (.getfield 30, 3) := by decide +kernel
theorem dX5_readLevel_65 : decode cX5_readLevel 65 = .ok (.invokevirtual 42, 3) := by decide +kernel
theorem dX5_readLevel_68 : decode cX5_readLevel 68 = .ok (.aload_n 0, 1) := by decide +kernel
theorem dX5_readLevel_69 : decode cX5_readLevel 69 = .ok (.iload_n 1, 1) := by decide +kernel
theorem dX5_readLevel_70 : decode cX5_readLevel 70 = .ok (.iconst 1, 1) := by decide +kernel
theorem dX5_readLevel_71 : decode cX5_readLevel 71 = .ok (.iadd, 1) := by decide +kernel
theorem dX5_readLevel_72 : decode cX5_readLevel 72 = .ok (.iload_n 2, 1) := by decide +kernel
theorem dX5_readLevel_73 : decode cX5_readLevel 73 = .ok (.invokevirtual 132, 3) := by decide +kernel
theorem dX5_readLevel_76 : decode cX5_readLevel 76 = .ok (.ifCond .ne 5, 3) := by decide +kernel
theorem dX5_readLevel_79 : decode cX5_readLevel 79 = .ok (.iconst 0, 1) := by decide +kernel
theorem dX5_readLevel_80 : decode cX5_readLevel 80 = .ok (.ireturn, 1) := by decide +kernel
theorem dX5_readLevel_81 : decode cX5_readLevel 81 = .ok (.aload_n 0, 1) := by decide +kernel
theorem dX5_readLevel_82 : decode cX5_readLevel 82 = .ok (.iload 5, 2) := by decide +kernel
theorem dX5_readLevel_84 : decode cX5_readLevel 84 = .ok (.iconst 0, 1) := by decide +kernel
theorem dX5_readLevel_85 : decode cX5_readLevel 85 = .ok (.invokevirtual 249, 3) := by decide +kernel
theorem dX5_readLevel_88 : decode cX5_readLevel 88 = .ok (.iinc 4 1, 3) := by decide +kernel
theorem dX5_readLevel_91 : decode cX5_readLevel 91 = .ok (.goto (-51), 3) := by decide +kernel
theorem dX5_readLevel_94 : decode cX5_readLevel 94 = .ok (.iconst 1, 1) := by decide +kernel
theorem dX5_readLevel_95 : decode cX5_readLevel 95 = .ok (.ireturn, 1) := by decide +kernel
theorem dX5_operatorOf_0 : decode cX5_operatorOf 0 = .ok (.iload_n 1, 1) := by decide +kernel
theorem dX5_operatorOf_1 : decode cX5_operatorOf 1 = .ok (.tableswitch 134 0 2 #[27, 63, 98], 27) := by decide +kernel
theorem dX5_operatorOf_28 : decode cX5_operatorOf 28 = .ok (.aload_n 0, 1) := by decide +kernel
theorem dX5_operatorOf_29 : decode cX5_operatorOf 29 = .ok (.getfield 30, 3) := by decide +kernel
theorem dX5_operatorOf_32 : decode cX5_operatorOf 32 = .ok (.getfield 63, 3) := by decide +kernel
theorem dX5_operatorOf_35 : decode cX5_operatorOf 35 = .ok (.getstatic 253, 3) := by decide +kernel
theorem dX5_operatorOf_38 : decode cX5_operatorOf 38 = .ok (.if_acmp .ne 7, 3) := by decide +kernel
theorem dX5_operatorOf_41 : decode cX5_operatorOf 41 = .ok (.iconst 3, 1) := by decide +kernel
theorem dX5_operatorOf_42 : decode cX5_operatorOf 42 = .ok (.goto 21, 3) := by decide +kernel
theorem dX5_operatorOf_45 : decode cX5_operatorOf 45 = .ok (.aload_n 0, 1) := by decide +kernel
theorem dX5_operatorOf_46 : decode cX5_operatorOf 46 = .ok (.getfield 30, 3) := by decide +kernel
theorem dX5_operatorOf_49 : decode cX5_operatorOf 49 = .ok (.getfield 63, 3) := by decide +kernel
theorem dX5_operatorOf_52 : decode cX5_operatorOf 52 = .ok (.getstatic 256, 3) := by decide +kernel
theorem dX5_operatorOf_55 : decode cX5_operatorOf 55 = .ok (.if_acmp .ne 7, 3) := by decide +kernel
theorem dX5_operatorOf_58 : decode cX5_operatorOf 58 = .ok (.iconst 4, 1) := by decide +kernel
theorem dX5_operatorOf_59 : decode cX5_operatorOf 59 = .ok (.goto 4, 3) := by decide +kernel
theorem dX5_operatorOf_62 : decode cX5_operatorOf 62 = .ok (.iconst (-1), 1) := by decide +kernel
theorem dX5_operatorOf_63 : decode cX5_operatorOf 63 = .ok (.ireturn, 1) := by decide +kernel
theorem dX5_operatorOf_64 : decode cX5_operatorOf 64 = .ok (.aload_n 0, 1) := by decide +kernel
theorem dX5_operatorOf_65 : decode cX5_operatorOf 65 = .ok (.getfield 30, 3) := by decide +kernel
theorem dX5_operatorOf_68 : decode cX5_operatorOf 68 = .ok (.bipush 60, 2) := by decide +kernel
theorem dX5_operatorOf_70 : decode cX5_operatorOf 70 = .ok (.invokevirtual 238, 3) := by decide +kernel
theorem dX5_operatorOf_73 : decode cX5_operatorOf 73 = .ok (.ifCond .eq 7, 3) := by decide +kernel
theorem dX5_operatorOf_76 : decode cX5_operatorOf 76 = .ok (.iconst 5, 1) := by decide +kernel
theorem dX5_operatorOf_77 : decode cX5_operatorOf 77 = .ok (.goto 21, 3) := by decide +kernel
theorem dX5_operatorOf_80 : decode cX5_operatorOf 80 = .ok (.aload_n 0, 1) := by decide +kernel
theorem dX5_operatorOf_81 : decode cX5_operatorOf 81 = .ok (.getfield 30, 3) := by decide +kernel
theorem dX5_operatorOf_84 : decode cX5_operatorOf 84 = .ok (.bipush 61, 2) := by decide +kernel
theorem dX5_operatorOf_86 : decode cX5_operatorOf 86 = .ok (.invokevirtual 238, 3) := by decide +kernel
theorem dX5_operatorOf_89 : decode cX5_operatorOf 89 = .ok (.ifCond .eq 8, 3) := by decide +kernel
theorem dX5_operatorOf_92 : decode cX5_operatorOf 92 = .ok (.bipush 6, 2) := by decide +kernel
theorem dX5_operatorOf_94 : decode cX5_operatorOf 94 = .ok (.goto 4, 3) := by decide +kernel
theorem dX5_operatorOf_97 : decode cX5_operatorOf 97 = .ok (.iconst (-1), 1) := by decide +kernel
theorem dX5_operatorOf_98 : decode cX5_operatorOf 98 = .ok (.ireturn, 1) := by decide +kernel
theorem dX5_operatorOf_99 : decode cX5_operatorOf 99 = .ok (.aload_n 0, 1) := by decide +kernel
theorem dX5_operatorOf_100 : decode cX5_operatorOf 100 = .ok (.getfield 30, 3) := by decide +kernel
theorem dX5_operatorOf_103 : decode cX5_operatorOf 103 = .ok (.bipush 43, 2) := by decide +kernel
theorem dX5_operatorOf_105 : decode cX5_operatorOf 105 = .ok (.invokevirtual 238, 3) := by decide +kernel
theorem dX5_operatorOf_108 : decode cX5_operatorOf 108 = .ok (.ifCond .eq 8, 3) := by decide +kernel
theorem dX5_operatorOf_111 : decode cX5_operatorOf 111 = .ok (.bipush 7, 2) := by decide +kernel
theorem dX5_operatorOf_113 : decode cX5_operatorOf 113 = .ok (.goto 21, 3) := by decide +kernel
theorem dX5_operatorOf_116 : decode cX5_operatorOf 116 = .ok (.aload_n 0, 1) := by decide +kernel
theorem dX5_operatorOf_117 : decode cX5_operatorOf 117 = .ok (.getfield 30, 3) := by decide +kernel
theorem dX5_operatorOf_120 : decode cX5_operatorOf 120 = .ok (.bipush 45, 2) := by decide +kernel
theorem dX5_operatorOf_122 : decode cX5_operatorOf 122 = .ok (.invokevirtual 238, 3) := by decide +kernel
theorem dX5_operatorOf_125 : decode cX5_operatorOf 125 = .ok (.ifCond .eq 8, 3) := by decide +kernel
theorem dX5_operatorOf_128 : decode cX5_operatorOf 128 = .ok (.bipush 8, 2) := by decide +kernel
theorem dX5_operatorOf_130 : decode cX5_operatorOf 130 = .ok (.goto 4, 3) := by decide +kernel
theorem dX5_operatorOf_133 : decode cX5_operatorOf 133 = .ok (.iconst (-1), 1) := by decide +kernel
theorem dX5_operatorOf_134 : decode cX5_operatorOf 134 = .ok (.ireturn, 1) := by decide +kernel
theorem dX5_operatorOf_135 : decode cX5_operatorOf 135 = .ok (.aload_n 0, 1) := by decide +kernel
theorem dX5_operatorOf_136 : decode cX5_operatorOf 136 = .ok (.getfield 30, 3) := by decide +kernel
theorem dX5_operatorOf_139 : decode cX5_operatorOf 139 = .ok (.bipush 42, 2) := by decide +kernel
theorem dX5_operatorOf_141 : decode cX5_operatorOf 141 = .ok (.invokevirtual 238, 3) := by decide +kernel
theorem dX5_operatorOf_144 : decode cX5_operatorOf 144 = .ok (.ifCond .eq 8, 3) := by decide +kernel
theorem dX5_operatorOf_147 : decode cX5_operatorOf 147 = .ok (.bipush 9, 2) := by decide +kernel
theorem dX5_operatorOf_149 : decode cX5_operatorOf 149 = .ok (.goto 4, 3) := by decide +kernel
theorem dX5_operatorOf_152 : decode cX5_operatorOf 152 = .ok (.iconst (-1), 1) := by decide +kernel
theorem dX5_operatorOf_153 : decode cX5_operatorOf 153 = .ok (.ireturn, 1) := by decide +kernel
theorem dX5_readPart_0 : decode cX5_readPart 0 = .ok (.aload_n 0, 1) := by decide +kernel
theorem dX5_readPart_1 : decode cX5_readPart 1 = .ok (.getfield 30, 3) := by decide +kernel
theorem dX5_readPart_4 : decode cX5_readPart 4 = .ok (.getfield 47, 3) := by decide +kernel
theorem dX5_readPart_7 : decode cX5_readPart 7 = .ok (.iconst 3, 1) := by decide +kernel
theorem dX5_readPart_8 : decode cX5_readPart 8 = .ok (.if_icmp .ne 7, 3) := by decide +kernel
theorem dX5_readPart_11 : decode cX5_readPart 11 = .ok (.iconst 1, 1) := by decide +kernel
theorem dX5_readPart_12 : decode cX5_readPart 12 = .ok (.goto 4, 3) := by decide +kernel
theorem dX5_readPart_15 : decode cX5_readPart 15 = .ok (.iconst 0, 1) := by decide +kernel
theorem dX5_readPart_16 : decode cX5_readPart 16 = .ok (.istore_n 2, 1) := by decide +kernel
theorem dX5_readPart_17 : decode cX5_readPart 17 = .ok (.aload_n 0, 1) := by decide +kernel
theorem dX5_readPart_18 : decode cX5_readPart 18 = .ok (.getfield 30, 3) := by decide +kernel
theorem dX5_readPart_21 : decode cX5_readPart 21 = .ok (.getfield 63, 3) := by decide +kernel
theorem dX5_readPart_24 : decode cX5_readPart 24 = .ok (.getstatic 259, 3) := by decide +kernel
theorem dX5_readPart_27 : decode cX5_readPart 27 = .ok (.if_acmp .ne 7, 3) := by decide +kernel
theorem dX5_readPart_30 : decode cX5_readPart 30 = .ok (.iconst 1, 1) := by decide +kernel
theorem dX5_readPart_31 : decode cX5_readPart 31 = .ok (.goto 4, 3) := by decide +kernel
theorem dX5_readPart_34 : decode cX5_readPart 34 = .ok (.iconst 0, 1) := by decide +kernel
theorem dX5_readPart_35 : decode cX5_readPart 35 = .ok (.istore_n 3, 1) := by decide +kernel
theorem dX5_readPart_36 : decode cX5_readPart 36 = .ok (.aload_n 0, 1) := by decide +kernel
theorem dX5_readPart_37 : decode cX5_readPart 37 = .ok (.getfield 30, 3) := by decide +kernel
theorem dX5_readPart_40 : decode cX5_readPart 40 = .ok (.getfield 63, 3) := by decide +kernel
theorem dX5_readPart_43 : decode cX5_readPart 43 = .ok (.ifnull 31, 3) := by decide +kernel
theorem dX5_readPart_46 : decode cX5_readPart 46 = .ok (.aload_n 0, 1) := by decide +kernel
theorem dX5_readPart_47 : decode cX5_readPart 47 = .ok (.getfield 30, 3) := by decide +kernel
theorem dX5_readPart_50 : decode cX5_readPart 50 = .ok (.getfield 63, 3) := by decide +kernel
theorem dX5_readPart_53 : decode cX5_readPart 53 = .ok (.getfield 262, 3) := by decide +kernel
theorem dX5_readPart_56 : decode cX5_readPart 56 = .ok (.aload_n 0, 1) := by decide +kernel
theorem dX5_readPart_57 : decode cX5_readPart 57 = .ok (.getfield 123, 3) := by decide +kernel
theorem dX5_readPart_60 : decode cX5_readPart 60 = .ok (.aload_n 0, 1) := by decide +kernel
theorem dX5_readPart_61 : decode cX5_readPart 61 = .ok (.getfield 126, 3) := by decide +kernel
theorem dX5_readPart_64 : decode cX5_readPart 64 = .ok (.invokestatic 265, 3) := by decide +kernel
theorem dX5_readPart_67 : decode cX5_readPart 67 = .ok (.ifCond .eq 7, 3) := by decide +kernel
theorem dX5_readPart_70 : decode cX5_readPart 70 = .ok (.iconst 1, 1) := by decide +kernel
theorem dX5_readPart_71 : decode cX5_readPart 71 = .ok (.goto 4, 3) := by decide +kernel
theorem dX5_readPart_74 : decode cX5_readPart 74 = .ok (.iconst 0, 1) := by decide +kernel
theorem dX5_readPart_75 : decode cX5_readPart 75 = .ok (.istore 4, 2) := by decide +kernel
theorem dX5_readPart_77 : decode cX5_readPart 77 = .ok (.iload_n 2, 1) := by decide +kernel
theorem dX5_readPart_78 : decode cX5_readPart 78 = .ok (.ifCond .ne 30, 3) := by decide +kernel
theorem dX5_readPart_81 : decode cX5_readPart 81 = .ok (.iload_n 3, 1) := by decide +kernel
theorem dX5_readPart_82 : decode cX5_readPart 82 = .ok (.ifCond .ne 26, 3) := by decide +kernel
theorem dX5_readPart_85 : decode cX5_readPart 85 = .ok (.iload 4, 2) := by decide +kernel
theorem dX5_readPart_87 : decode cX5_readPart 87 = .ok (.ifCond .ne 21, 3) := by decide +kernel
theorem dX5_readPart_90 : decode cX5_readPart 90 = .ok (.aload_n 0, 1) := by decide +kernel
theorem dX5_readPart_91 : decode cX5_readPart 91 = .ok (.getfield 30, 3) := by decide +kernel
theorem dX5_readPart_94 : decode cX5_readPart 94 = .ok (.bipush 40, 2) := by decide +kernel
theorem dX5_readPart_96 : decode cX5_readPart 96 = .ok (.invokevirtual 238, 3) := by decide +kernel
theorem dX5_readPart_99 : decode cX5_readPart 99 = .ok (.ifCond .ne 9, 3) := by decide +kernel
theorem dX5_readPart_102 : decode cX5_readPart 102 = .ok (.aload_n 0, 1) := by decide +kernel
theorem dX5_readPart_103 : decode cX5_readPart 103 = .ok (.iconst 1, 1) := by decide +kernel
theorem dX5_readPart_104 : decode cX5_readPart 104 = .ok (.invokevirtual 109, 3) := by decide +kernel
theorem dX5_readPart_107 : decode cX5_readPart 107 = .ok (.ireturn, 1) := by decide +kernel
theorem dX5_readPart_108 : decode cX5_readPart 108 = .ok (.iload_n 1, 1) := by decide +kernel
theorem dX5_readPart_109 : decode cX5_readPart 109 = .ok (.iconst 5, 1) := by decide +kernel
theorem dX5_readPart_110 : decode cX5_readPart 110 = .ok (.if_icmp .lt 9, 3) := by decide +kernel
theorem dX5_readPart_113 : decode cX5_readPart 113 = .ok (.aload_n 0, 1) := by decide +kernel
theorem dX5_readPart_114 : decode cX5_readPart 114 = .ok (.iconst 5, 1) := by decide +kernel
theorem dX5_readPart_115 : decode cX5_readPart 115 = .ok (.invokevirtual 109, 3) := by decide +kernel
theorem dX5_readPart_118 : decode cX5_readPart 118 = .ok (.ireturn, 1) := by decide +kernel
theorem dX5_readPart_119 : decode cX5_readPart 119 = .ok (.iload_n 2, 1) := by decide +kernel
theorem dX5_readPart_120 : decode cX5_readPart 120 = .ok (.ifCond .eq 18, 3) := by decide +kernel
theorem dX5_readPart_123 : decode cX5_readPart 123 = .ok (.aload_n 0, 1) := by decide +kernel
theorem dX5_readPart_124 : decode cX5_readPart 124 = .ok (.iconst 0, 1) := by decide +kernel
theorem dX5_readPart_125 : decode cX5_readPart 125 = .ok (.aload_n 0, 1) := by decide +kernel
theorem dX5_readPart_126 : decode cX5_readPart 126 = .ok (.getfield 30, 3) := by decide +kernel
theorem dX5_readPart_129 : decode cX5_readPart 129 = .ok (.getfield 241, 3) := by decide +kernel
theorem dX5_readPart_132 : decode cX5_readPart 132 = .ok (.invokevirtual 249, 3) := by decide +kernel
theorem dX5_readPart_135 : decode cX5_readPart 135 = .ok (.goto 23, 3) := by decide +kernel
theorem dX5_readPart_138 : decode cX5_readPart 138 = .ok (.iload 4, 2) := by decide +kernel
theorem dX5_readPart_140 : decode cX5_readPart 140 = .ok (.ifCond .eq 18, 3) := by decide +kernel
theorem dX5_readPart_143 : decode cX5_readPart 143 = .ok (.aload_n 0, 1) := by decide +kernel
theorem dX5_readPart_144 : decode cX5_readPart 144 = .ok (.iconst 1, 1) := by decide +kernel
theorem dX5_readPart_145 : decode cX5_readPart 145 = .ok (.aload_n 0, 1) := by decide +kernel
theorem dX5_readPart_146 : decode cX5_readPart 146 = .ok (.getfield 30, 3) := by decide +kernel
theorem dX5_readPart_149 : decode cX5_readPart 149 = .ok (.getfield 63, 3) := by decide +kernel
theorem dX5_readPart_152 : decode cX5_readPart 152 = .ok (.getfield 262, 3) := by decide +kernel
theorem dX5_readPart_155 : decode cX5_readPart 155 = .ok (.invokevirtual 249, 3) := by decide +kernel
theorem dX5_readPart_158 : decode cX5_readPart 158 = .ok (.aload_n 0, 1) := by decide +kernel
theorem dX5_readPart_159 : decode cX5_readPart 159 = .ok (.getfield 30, 3) := by decide +kernel
theorem dX5_readPart_162 : decode cX5_readPart 162 = .ok (.invokevirtual 42, 3) := by decide +kernel
theorem dX5_readPart_165 : decode cX5_readPart 165 = .ok (.iload_n 2, 1) := by decide +kernel
theorem dX5_readPart_166 : decode cX5_readPart 166 = .ok (.ifCond .ne 8, 3) := by decide +kernel
theorem dX5_readPart_169 : decode cX5_readPart 169 = .ok (.iload 4, 2) := by decide +kernel
theorem dX5_readPart_171 : decode cX5_readPart 171 = .ok (.ifCond .eq 5, 3) := by decide +kernel
theorem dX5_readPart_174 : decode cX5_readPart 174 = .ok (.iconst 1, 1) := by decide +kernel
theorem dX5_readPart_175 : decode cX5_readPart 175 = .ok (.ireturn, 1) := by decide +kernel
theorem dX5_readPart_176 : decode cX5_readPart 176 = .ok (.iload_n 3, 1) := by decide +kernel
theorem dX5_readPart_177 : decode cX5_readPart 177 = .ok (.ifCond .ne 29, 3) := by decide +kernel
theorem dX5_readPart_180 : decode cX5_readPart 180 = .ok (.aload_n 0, 1) := by decide +kernel
theorem dX5_readPart_181 : decode cX5_readPart 181 = .ok (.iconst 0, 1) := by decide +kernel
theorem dX5_readPart_182 : decode cX5_readPart 182 = .ok (.iload_n 1, 1) := by decide +kernel
theorem dX5_readPart_183 : decode cX5_readPart 183 = .ok (.iconst 1, 1) := by decide +kernel
theorem dX5_readPart_184 : decode cX5_readPart 184 = .ok (.iadd, 1) := by decide +kernel
theorem dX5_readPart_185 : decode cX5_readPart 185 = .ok (.invokevirtual 132, 3) := by decide +kernel
theorem dX5_readPart_188 : decode cX5_readPart 188 = .ok (.ifCond .eq 16, 3) := by decide +kernel
theorem dX5_readPart_191 : decode cX5_readPart 191 = .ok (.aload_n 0, 1) := by decide +kernel
theorem dX5_readPart_192 : decode cX5_readPart 192 = .ok (.bipush 41, 2) := by decide +kernel
theorem dX5_readPart_194 : decode cX5_readPart 194 = .ok (.invokevirtual 113, 3) := by decide +kernel
theorem dX5_readPart_197 : decode cX5_readPart 197 = .ok (.ifCond .eq 7, 3) := by decide +kernel
theorem dX5_readPart_200 : decode cX5_readPart 200 = .ok (.iconst 1, 1) := by decide +kernel
theorem dX5_readPart_201 : decode cX5_readPart 201 = .ok (.goto 4, 3) := by decide +kernel
theorem dX5_readPart_204 : decode cX5_readPart 204 = .ok (.iconst 0, 1) := by decide +kernel
theorem dX5_readPart_205 : decode cX5_readPart 205 = .ok (.ireturn, 1) := by decide +kernel
theorem dX5_readPart_206 : decode cX5_readPart 206 = .ok (.aload_n 0, 1) := by decide +kernel
theorem dX5_readPart_207 : decode cX5_readPart 207 = .ok (.iload_n 1, 1) := by decide +kernel
theorem dX5_readPart_208 : decode cX5_readPart 208 = .ok (.iconst 1, 1) := by decide +kernel
theorem dX5_readPart_209 : decode cX5_readPart 209 = .ok (.iadd, 1) := by decide +kernel
theorem dX5_readPart_210 : decode cX5_readPart 210 = .ok (.invokevirtual 242, 3) := by decide +kernel
theorem dX5_readPart_213 : decode cX5_readPart 213 = .ok (.ifCond .ne 5, 3) := by decide +kernel
theorem dX5_readPart_216 : decode cX5_readPart 216 = .ok (.iconst 0, 1) := by decide +kernel
theorem dX5_readPart_217 : decode cX5_readPart 217 = .ok (.ireturn, 1) := by decide +kernel
theorem dX5_readPart_218 : decode cX5_readPart 218 = .ok (.aload_n 0, 1) := by decide +kernel
theorem dX5_readPart_219 : decode cX5_readPart 219 = .ok (.iconst 2, 1) := by decide +kernel
theorem dX5_readPart_220 : decode cX5_readPart 220 = .ok (.iconst 0, 1) := by decide +kernel
theorem dX5_readPart_221 : decode cX5_readPart 221 = .ok (.invokevirtual 249, 3) := by decide +kernel
theorem dX5_readPart_224 : decode cX5_readPart 224 = .ok (.iconst 1, 1) := by decide +kernel
theorem dX5_readPart_225 : decode cX5_readPart 225 = .ok (.ireturn, 1) := by decide +kernel
theorem dX5_addStep_0 : decode cX5_addStep 0 = .ok (.aload_n 0, 1) := by decide +kernel
theorem dX5_addStep_1 : decode cX5_addStep 1 = .ok (.getfield 129, 3) := by decide +kernel
theorem dX5_addStep_4 : decode cX5_addStep 4 = .ok (.aload_n 0, 1) := by decide +kernel
theorem dX5_addStep_5 : decode cX5_addStep 5 = .ok (.getfield 38, 3) := by decide +kernel
theorem dX5_addStep_8 : decode cX5_addStep 8 = .ok (.arraylength, 1) := by decide +kernel
theorem dX5_addStep_9 : decode cX5_addStep 9 = .ok (.if_icmp .ge 27, 3) := by decide +kernel
theorem dX5_addStep_12 : decode cX5_addStep 12 = .ok (.aload_n 0, 1) := by decide +kernel
theorem dX5_addStep_13 : decode cX5_addStep 13 = .ok (.getfield 38, 3) := by decide +kernel
theorem dX5_addStep_16 : decode cX5_addStep 16 = .ok (.aload_n 0, 1) := by decide +kernel
theorem dX5_addStep_17 : decode cX5_addStep 17 = .ok (.getfield 129, 3) := by decide +kernel
theorem dX5_addStep_20 : decode cX5_addStep 20 = .ok (.iload_n 1, 1) := by decide +kernel
theorem dX5_addStep_21 : decode cX5_addStep 21 = .ok (.iload_n 2, 1) := by decide +kernel
theorem dX5_addStep_22 : decode cX5_addStep 22 = .ok (.invokestatic 269, 3) := by decide +kernel
theorem dX5_addStep_25 : decode cX5_addStep 25 = .ok (.iastore, 1) := by decide +kernel
theorem dX5_addStep_26 : decode cX5_addStep 26 = .ok (.aload_n 0, 1) := by decide +kernel
theorem dX5_addStep_27 : decode cX5_addStep 27 = .ok (.dup, 1) := by decide +kernel
theorem dX5_addStep_28 : decode cX5_addStep 28 = .ok (.getfield 129, 3) := by decide +kernel
theorem dX5_addStep_31 : decode cX5_addStep 31 = .ok (.iconst 1, 1) := by decide +kernel
theorem dX5_addStep_32 : decode cX5_addStep 32 = .ok (.iadd, 1) := by decide +kernel
theorem dX5_addStep_33 : decode cX5_addStep 33 = .ok (.putfield 129, 3) := by decide +kernel
theorem dX5_addStep_36 : decode cX5_addStep 36 = .ok (.return_, 1) := by decide +kernel
theorem dX6_init_0 : decode cX6_init 0 = .ok (.aload_n 0, 1) := by decide +kernel
theorem dX6_init_1 : decode cX6_init 1 = .ok (.invokespecial 1, 3) := by decide +kernel
theorem dX6_init_4 : decode cX6_init 4 = .ok (.aload_n 0, 1) := by decide +kernel
theorem dX6_init_5 : decode cX6_init 5 = .ok (.sipush 1000, 3) := by decide +kernel
theorem dX6_init_8 : decode cX6_init 8 = .ok (.newarray .byte, 2) := by decide +kernel
theorem dX6_init_10 : decode cX6_init 10 = .ok (.putfield 9, 3) := by decide +kernel
theorem dX6_init_13 : decode cX6_init 13 = .ok (.return_, 1) := by decide +kernel
theorem dX6_addBytes_0 : decode cX6_addBytes 0 = .ok (.bipush 56, 2) := by decide +kernel
theorem dX6_addBytes_2 : decode cX6_addBytes 2 = .ok (.istore_n 3, 1) := by decide +kernel
theorem dX6_addBytes_3 : decode cX6_addBytes 3 = .ok (.iload_n 3, 1) := by decide +kernel
theorem dX6_addBytes_4 : decode cX6_addBytes 4 = .ok (.ifCond .lt 82, 3) := by decide +kernel
theorem dX6_addBytes_7 : decode cX6_addBytes 7 = .ok (.lload_n 1, 1) := by decide +kernel
theorem dX6_addBytes_8 : decode cX6_addBytes 8 = .ok (.iload_n 3, 1) := by decide +kernel
theorem dX6_addBytes_9 : decode cX6_addBytes 9 = .ok (.lshr, 1) := by decide +kernel
theorem dX6_addBytes_10 : decode cX6_addBytes 10 = .ok (.l2i, 1) := by decide +kernel
theorem dX6_addBytes_11 : decode cX6_addBytes 11 = .ok (.sipush 255, 3) := by decide +kernel
theorem dX6_addBytes_14 : decode cX6_addBytes 14 = .ok (.iand, 1) := by decide +kernel
theorem dX6_addBytes_15 : decode cX6_addBytes 15 = .ok (.istore 4, 2) := by decide +kernel
theorem dX6_addBytes_17 : decode cX6_addBytes 17 = .ok (.iload 4, 2) := by decide +kernel
theorem dX6_addBytes_19 : decode cX6_addBytes 19 = .ok (.bipush 10, 2) := by decide +kernel
theorem dX6_addBytes_21 : decode cX6_addBytes 21 = .ok (.if_icmp .eq 15, 3) := by decide +kernel
theorem dX6_addBytes_24 : decode cX6_addBytes 24 = .ok (.iload 4, 2) := by decide +kernel
theorem dX6_addBytes_26 : decode cX6_addBytes 26 = .ok (.bipush 32, 2) := by decide +kernel
theorem dX6_addBytes_28 : decode cX6_addBytes 28 = .ok (.bipush 126, 2) := by decide +kernel
theorem dX6_addBytes_30 : decode cX6_addBytes 30 = .ok (.invokestatic 13, 3) := by decide +kernel
theorem dX6_addBytes_33 : decode cX6_addBytes 33 = .ok (.ifCond .eq 7, 3) := by decide +kernel
theorem dX6_addBytes_36 : decode cX6_addBytes 36 = .ok (.iconst 1, 1) := by decide +kernel
theorem dX6_addBytes_37 : decode cX6_addBytes 37 = .ok (.goto 4, 3) := by decide +kernel
theorem dX6_addBytes_40 : decode cX6_addBytes 40 = .ok (.iconst 0, 1) := by decide +kernel
theorem dX6_addBytes_41 : decode cX6_addBytes 41 = .ok (.istore 5, 2) := by decide +kernel
theorem dX6_addBytes_43 : decode cX6_addBytes 43 = .ok (.iload 5, 2) := by decide +kernel
theorem dX6_addBytes_45 : decode cX6_addBytes 45 = .ok (.ifCond .eq 35, 3) := by decide +kernel
theorem dX6_addBytes_48 : decode cX6_addBytes 48 = .ok (.aload_n 0, 1) := by decide +kernel
theorem dX6_addBytes_49 : decode cX6_addBytes 49 = .ok (.getfield 19, 3) := by decide +kernel
theorem dX6_addBytes_52 : decode cX6_addBytes 52 = .ok (.sipush 1000, 3) := by decide +kernel
theorem dX6_addBytes_55 : decode cX6_addBytes 55 = .ok (.if_icmp .ge 25, 3) := by decide +kernel
theorem dX6_addBytes_58 : decode cX6_addBytes 58 = .ok (.aload_n 0, 1) := by decide +kernel
theorem dX6_addBytes_59 : decode cX6_addBytes 59 = .ok (.getfield 9, 3) := by decide +kernel
theorem dX6_addBytes_62 : decode cX6_addBytes 62 = .ok (.aload_n 0, 1) := by decide +kernel
theorem dX6_addBytes_63 : decode cX6_addBytes 63 = .ok (.getfield 19, 3) := by decide +kernel
theorem dX6_addBytes_66 : decode cX6_addBytes 66 = .ok (.iload 4, 2) := by decide +kernel
theorem dX6_addBytes_68 : decode cX6_addBytes 68 = .ok (.i2b, 1) := by decide +kernel
theorem dX6_addBytes_69 : decode cX6_addBytes 69 = .ok (.bastore, 1) := by decide +kernel
theorem dX6_addBytes_70 : decode cX6_addBytes 70 = .ok (.aload_n 0, 1) := by decide +kernel
theorem dX6_addBytes_71 : decode cX6_addBytes 71 = .ok (.dup, 1) := by decide +kernel
theorem dX6_addBytes_72 : decode cX6_addBytes 72 = .ok (.getfield 19, 3) := by decide +kernel
theorem dX6_addBytes_75 : decode cX6_addBytes 75 = .ok (.iconst 1, 1) := by decide +kernel
theorem dX6_addBytes_76 : decode cX6_addBytes 76 = .ok (.iadd, 1) := by decide +kernel
theorem dX6_addBytes_77 : decode cX6_addBytes 77 = .ok (.putfield 19, 3) := by decide +kernel
theorem dX6_addBytes_80 : decode cX6_addBytes 80 = .ok (.iinc 3 (-8), 3) := by decide +kernel
theorem dX6_addBytes_83 : decode cX6_addBytes 83 = .ok (.goto (-80), 3) := by decide +kernel
theorem dX6_addBytes_86 : decode cX6_addBytes 86 = .ok (.return_, 1) := by decide +kernel
theorem dX7_init_0 : decode cX7_init 0 = .ok (.aload_n 0, 1) := by decide +kernel
theorem dX7_init_1 : decode cX7_init 1 = .ok (.invokespecial 1, 3) := by decide +kernel
theorem dX7_init_4 : decode cX7_init 4 = .ok (.aload_n 0, 1) := by decide +kernel
theorem dX7_init_5 : decode cX7_init 5 = .ok (.aload_n 1, 1) := by decide +kernel
theorem dX7_init_6 : decode cX7_init 6 = .ok (.getfield 7, 3) := by decide +kernel
theorem dX7_init_9 : decode cX7_init 9 = .ok (.putfield 13, 3) := by decide +kernel
theorem dX7_init_12 : decode cX7_init 12 = .ok (.aload_n 0, 1) := by decide +kernel
theorem dX7_init_13 : decode cX7_init 13 = .ok (.aload_n 1, 1) := by decide +kernel
theorem dX7_init_14 : decode cX7_init 14 = .ok (.getfield 16, 3) := by decide +kernel
theorem dX7_init_17 : decode cX7_init 17 = .ok (.aload_n 1, 1) := by decide +kernel
theorem dX7_init_18 : decode cX7_init 18 = .ok (.getfield 7, 3) := by decide +kernel
theorem dX7_init_21 : decode cX7_init 21 = .ok (.arraylength, 1) := by decide +kernel
theorem dX7_init_22 : decode cX7_init 22 = .ok (.invokestatic 20, 3) := by decide +kernel
theorem dX7_init_25 : decode cX7_init 25 = .ok (.putfield 26, 3) := by decide +kernel
theorem dX7_init_28 : decode cX7_init 28 = .ok (.return_, 1) := by decide +kernel
theorem dX7_withLetter_0 : decode cX7_withLetter 0 = .ok (.lload_n 0, 1) := by decide +kernel
theorem dX7_withLetter_1 : decode cX7_withLetter 1 = .ok (.ldc2_w 27, 3) := by decide +kernel
theorem dX7_withLetter_4 : decode cX7_withLetter 4 = .ok (.lmul, 1) := by decide +kernel
theorem dX7_withLetter_5 : decode cX7_withLetter 5 = .ok (.iload_n 2, 1) := by decide +kernel
theorem dX7_withLetter_6 : decode cX7_withLetter 6 = .ok (.bipush 97, 2) := by decide +kernel
theorem dX7_withLetter_8 : decode cX7_withLetter 8 = .ok (.isub, 1) := by decide +kernel
theorem dX7_withLetter_9 : decode cX7_withLetter 9 = .ok (.iconst 1, 1) := by decide +kernel
theorem dX7_withLetter_10 : decode cX7_withLetter 10 = .ok (.iadd, 1) := by decide +kernel
theorem dX7_withLetter_11 : decode cX7_withLetter 11 = .ok (.i2l, 1) := by decide +kernel
theorem dX7_withLetter_12 : decode cX7_withLetter 12 = .ok (.ladd, 1) := by decide +kernel
theorem dX7_withLetter_13 : decode cX7_withLetter 13 = .ok (.lreturn, 1) := by decide +kernel
theorem dX7_isSign_0 : decode cX7_isSign 0 = .ok (.aload_n 0, 1) := by decide +kernel
theorem dX7_isSign_1 : decode cX7_isSign 1 = .ok (.getfield 29, 3) := by decide +kernel
theorem dX7_isSign_4 : decode cX7_isSign 4 = .ok (.iconst 4, 1) := by decide +kernel
theorem dX7_isSign_5 : decode cX7_isSign 5 = .ok (.if_icmp .ne 15, 3) := by decide +kernel
theorem dX7_isSign_8 : decode cX7_isSign 8 = .ok (.aload_n 0, 1) := by decide +kernel
theorem dX7_isSign_9 : decode cX7_isSign 9 = .ok (.getfield 32, 3) := by decide +kernel
theorem dX7_isSign_12 : decode cX7_isSign 12 = .ok (.iload_n 1, 1) := by decide +kernel
theorem dX7_isSign_13 : decode cX7_isSign 13 = .ok (.if_icmp .ne 7, 3) := by decide +kernel
theorem dX7_isSign_16 : decode cX7_isSign 16 = .ok (.iconst 1, 1) := by decide +kernel
theorem dX7_isSign_17 : decode cX7_isSign 17 = .ok (.goto 4, 3) := by decide +kernel
theorem dX7_isSign_20 : decode cX7_isSign 20 = .ok (.iconst 0, 1) := by decide +kernel
theorem dX7_isSign_21 : decode cX7_isSign 21 = .ok (.ireturn, 1) := by decide +kernel
theorem dX7_isName_0 : decode cX7_isName 0 = .ok (.aload_n 0, 1) := by decide +kernel
theorem dX7_isName_1 : decode cX7_isName 1 = .ok (.getfield 29, 3) := by decide +kernel
theorem dX7_isName_4 : decode cX7_isName 4 = .ok (.iconst 2, 1) := by decide +kernel
theorem dX7_isName_5 : decode cX7_isName 5 = .ok (.if_icmp .ne 24, 3) := by decide +kernel
theorem dX7_isName_8 : decode cX7_isName 8 = .ok (.aload_n 0, 1) := by decide +kernel
theorem dX7_isName_9 : decode cX7_isName 9 = .ok (.getfield 35, 3) := by decide +kernel
theorem dX7_isName_12 : decode cX7_isName 12 = .ok (.ifnull 13, 3) := by decide +kernel
theorem dX7_isName_15 : decode cX7_isName 15 = .ok (.aload_n 0, 1) := by decide +kernel
theorem dX7_isName_16 : decode cX7_isName 16 = .ok (.getfield 35, 3) := by decide +kernel
theorem dX7_isName_19 : decode cX7_isName 19 = .ok (.getfield 39, 3) := by decide +kernel
theorem dX7_isName_22 : decode cX7_isName 22 = .ok (.ifCond .ne 7, 3) := by decide +kernel
theorem dX7_isName_25 : decode cX7_isName 25 = .ok (.iconst 1, 1) := by decide +kernel
theorem dX7_isName_26 : decode cX7_isName 26 = .ok (.goto 4, 3) := by decide +kernel
theorem dX7_isName_29 : decode cX7_isName 29 = .ok (.iconst 0, 1) := by decide +kernel
theorem dX7_isName_30 : decode cX7_isName 30 = .ok (.ireturn, 1) := by decide +kernel
theorem dX7_next_0 : decode cX7_next 0 = .ok (.aload_n 0, 1) := by decide +kernel
theorem dX7_next_1 : decode cX7_next 1 = .ok (.getfield 45, 3) := by decide +kernel
theorem dX7_next_4 : decode cX7_next 4 = .ok (.aload_n 0, 1) := by decide +kernel
theorem dX7_next_5 : decode cX7_next 5 = .ok (.getfield 26, 3) := by decide +kernel
theorem dX7_next_8 : decode cX7_next 8 = .ok (.if_icmp .ge 44, 3) := by decide +kernel
theorem dX7_next_11 : decode cX7_next 11 = .ok (.aload_n 0, 1) := by decide +kernel
theorem dX7_next_12 : decode cX7_next 12 = .ok (.getfield 13, 3) := by decide +kernel
theorem dX7_next_15 : decode cX7_next 15 = .ok (.aload_n 0, 1) := by decide +kernel
theorem dX7_next_16 : decode cX7_next 16 = .ok (.getfield 45, 3) := by decide +kernel
theorem dX7_next_19 : decode cX7_next 19 = .ok (.baload, 1) := by decide +kernel
theorem dX7_next_20 : decode cX7_next 20 = .ok (.bipush 32, 2) := by decide +kernel
theorem dX7_next_22 : decode cX7_next 22 = .ok (.if_icmp .eq 17, 3) := by decide +kernel
theorem dX7_next_25 : decode cX7_next 25 = .ok (.aload_n 0, 1) := by decide +kernel
theorem dX7_next_26 : decode cX7_next 26 = .ok (.getfield 13, 3) := by decide +kernel
theorem dX7_next_29 : decode cX7_next 29 = .ok (.aload_n 0, 1) := by decide +kernel
theorem dX7_next_30 : decode cX7_next 30 = .ok (.getfield 45, 3) := by decide +kernel
theorem dX7_next_33 : decode cX7_next 33 = .ok (.baload, 1) := by decide +kernel
theorem dX7_next_34 : decode cX7_next 34 = .ok (.bipush 10, 2) := by decide +kernel
theorem dX7_next_36 : decode cX7_next 36 = .ok (.if_icmp .ne 16, 3) := by decide +kernel
theorem dX7_next_39 : decode cX7_next 39 = .ok (.aload_n 0, 1) := by decide +kernel
theorem dX7_next_40 : decode cX7_next 40 = .ok (.dup, 1) := by decide +kernel
theorem dX7_next_41 : decode cX7_next 41 = .ok (.getfield 45, 3) := by decide +kernel
theorem dX7_next_44 : decode cX7_next 44 = .ok (.iconst 1, 1) := by decide +kernel
theorem dX7_next_45 : decode cX7_next 45 = .ok (.iadd, 1) := by decide +kernel
theorem dX7_next_46 : decode cX7_next 46 = .ok (.putfield 45, 3) := by decide +kernel
theorem dX7_next_49 : decode cX7_next 49 = .ok (.goto (-49), 3) := by decide +kernel
theorem dX7_next_52 : decode cX7_next 52 = .ok (.aload_n 0, 1) := by decide +kernel
theorem dX7_next_53 : decode cX7_next 53 = .ok (.aload_n 0, 1) := by decide +kernel
theorem dX7_next_54 : decode cX7_next 54 = .ok (.getfield 45, 3) := by decide +kernel
theorem dX7_next_57 : decode cX7_next 57 = .ok (.putfield 48, 3) := by decide +kernel
theorem dX7_next_60 : decode cX7_next 60 = .ok (.aload_n 0, 1) := by decide +kernel
theorem dX7_next_61 : decode cX7_next 61 = .ok (.aconst_null, 1) := by decide +kernel
theorem dX7_next_62 : decode cX7_next 62 = .ok (.putfield 35, 3) := by decide +kernel
theorem dX7_next_65 : decode cX7_next 65 = .ok (.aload_n 0, 1) := by decide +kernel
theorem dX7_next_66 : decode cX7_next 66 = .ok (.getfield 45, 3) := by decide +kernel
theorem dX7_next_69 : decode cX7_next 69 = .ok (.aload_n 0, 1) := by decide +kernel
theorem dX7_next_70 : decode cX7_next 70 = .ok (.getfield 26, 3) := by decide +kernel
theorem dX7_next_73 : decode cX7_next 73 = .ok (.if_icmp .lt 11, 3) := by decide +kernel
theorem dX7_next_76 : decode cX7_next 76 = .ok (.aload_n 0, 1) := by decide +kernel
theorem dX7_next_77 : decode cX7_next 77 = .ok (.iconst 0, 1) := by decide +kernel
theorem dX7_next_78 : decode cX7_next 78 = .ok (.putfield 29, 3) := by decide +kernel
theorem dX7_next_81 : decode cX7_next 81 = .ok (.goto 100, 3) := by decide +kernel
theorem dX7_next_84 : decode cX7_next 84 = .ok (.aload_n 0, 1) := by decide +kernel
theorem dX7_next_85 : decode cX7_next 85 = .ok (.getfield 13, 3) := by decide +kernel
theorem dX7_next_88 : decode cX7_next 88 = .ok (.aload_n 0, 1) := by decide +kernel
theorem dX7_next_89 : decode cX7_next 89 = .ok (.getfield 45, 3) := by decide +kernel
theorem dX7_next_92 : decode cX7_next 92 = .ok (.baload, 1) := by decide +kernel
theorem dX7_next_93 : decode cX7_next 93 = .ok (.bipush 97, 2) := by decide +kernel
theorem dX7_next_95 : decode cX7_next 95 = .ok (.bipush 122, 2) := by decide +kernel
theorem dX7_next_97 : decode cX7_next 97 = .ok (.invokestatic 51, 3) := by decide +kernel
theorem dX7_next_100 : decode cX7_next 100 = .ok (.ifCond .eq 10, 3) := by decide +kernel
theorem dX7_next_103 : decode cX7_next 103 = .ok (.aload_n 0, 1) := by decide +kernel
theorem dX7_next_104 : decode cX7_next 104 = .ok (.invokevirtual 57, 3) := by decide +kernel
theorem dX7_next_107 : decode cX7_next 107 = .ok (.goto 74, 3) := by decide +kernel
theorem dX7_next_110 : decode cX7_next 110 = .ok (.aload_n 0, 1) := by decide +kernel
theorem dX7_next_111 : decode cX7_next 111 = .ok (.getfield 13, 3) := by decide +kernel
theorem dX7_next_114 : decode cX7_next 114 = .ok (.aload_n 0, 1) := by decide +kernel
theorem dX7_next_115 : decode cX7_next 115 = .ok (.getfield 45, 3) := by decide +kernel
theorem dX7_next_118 : decode cX7_next 118 = .ok (.baload, 1) := by decide +kernel
theorem dX7_next_119 : decode cX7_next 119 = .ok (.bipush 48, 2) := by decide +kernel
theorem dX7_next_121 : decode cX7_next 121 = .ok (.bipush 57, 2) := by decide +kernel
theorem dX7_next_123 : decode cX7_next 123 = .ok (.invokestatic 51, 3) := by decide +kernel
theorem dX7_next_126 : decode cX7_next 126 = .ok (.ifCond .eq 10, 3) := by decide +kernel
theorem dX7_next_129 : decode cX7_next 129 = .ok (.aload_n 0, 1) := by decide +kernel
theorem dX7_next_130 : decode cX7_next 130 = .ok (.invokevirtual 60, 3) := by decide +kernel
theorem dX7_next_133 : decode cX7_next 133 = .ok (.goto 48, 3) := by decide +kernel
theorem dX7_next_136 : decode cX7_next 136 = .ok (.aload_n 0, 1) := by decide +kernel
theorem dX7_next_137 : decode cX7_next 137 = .ok (.aload_n 0, 1) := by decide +kernel
theorem dX7_next_138 : decode cX7_next 138 = .ok (.getfield 13, 3) := by decide +kernel
theorem dX7_next_141 : decode cX7_next 141 = .ok (.aload_n 0, 1) := by decide +kernel
theorem dX7_next_142 : decode cX7_next 142 = .ok (.getfield 45, 3) := by decide +kernel
theorem dX7_next_145 : decode cX7_next 145 = .ok (.baload, 1) := by decide +kernel
theorem dX7_next_146 : decode cX7_next 146 = .ok (.putfield 32, 3) := by decide +kernel
theorem dX7_next_149 : decode cX7_next 149 = .ok (.aload_n 0, 1) := by decide +kernel
theorem dX7_next_150 : decode cX7_next 150 = .ok (.ldc 63, 2) := by decide +kernel
theorem dX7_next_152 : decode cX7_next 152 = .ok (.aload_n 0, 1) := by decide +kernel
theorem dX7_next_153 : decode cX7_next 153 = .ok (.getfield 32, 3) := by decide +kernel
theorem dX7_next_156 : decode cX7_next 156 = .ok (.i2c, 1) := by decide +kernel
theorem dX7_next_157 : decode cX7_next 157 = .ok (.invokevirtual 65, 3) := by decide +kernel
theorem dX7_next_160 : decode cX7_next 160 = .ok (.ifCond .lt 7, 3) := by decide +kernel
theorem dX7_next_163 : decode cX7_next 163 = .ok (.iconst 4, 1) := by decide +kernel
theorem dX7_next_164 : decode cX7_next 164 = .ok (.goto 4, 3) := by decide +kernel
theorem dX7_next_167 : decode cX7_next 167 = .ok (.iconst 1, 1) := by decide +kernel
theorem dX7_next_168 : decode cX7_next 168 = .ok (.putfield 29, 3) := by decide +kernel
theorem dX7_next_171 : decode cX7_next 171 = .ok (.aload_n 0, 1) := by decide +kernel
theorem dX7_next_172 : decode cX7_next 172 = .ok (.dup, 1) := by decide +kernel
theorem dX7_next_173 : decode cX7_next 173 = .ok (.getfield 45, 3) := by decide +kernel
theorem dX7_next_176 : decode cX7_next 176 = .ok (.iconst 1, 1) := by decide +kernel
theorem dX7_next_177 : decode cX7_next 177 = .ok (.iadd, 1) := by decide +kernel
theorem dX7_next_178 : decode cX7_next 178 = .ok (.putfield 45, 3) := by decide +kernel
theorem dX7_next_181 : decode cX7_next 181 = .ok (.return_, 1) := by decide +kernel
theorem dX7_takeWord_0 : decode cX7_takeWord 0 = .ok (.aload_n 0, 1) := by decide +kernel
theorem dX7_takeWord_1 : decode cX7_takeWord 1 = .ok (.lconst 0, 1) := by decide +kernel
theorem dX7_takeWord_2 : decode cX7_takeWord 2 = .ok (.putfield 71, 3) := by decide +kernel
theorem dX7_takeWord_5 : decode cX7_takeWord 5 = .ok (.aload_n 0, 1) := by decide +kernel
theorem dX7_takeWord_6 : decode cX7_takeWord 6 = .ok (.getfield 45, 3) := by decide +kernel
theorem dX7_takeWord_9 : decode cX7_takeWord 9 = .ok (.aload_n 0, 1) := by decide +kernel
theorem dX7_takeWord_10 : decode cX7_takeWord 10 = .ok (.getfield 26, 3) := by decide +kernel
theorem dX7_takeWord_13 : decode cX7_takeWord 13 = .ok (.if_icmp .ge 55, 3) := by decide +kernel
theorem dX7_takeWord_16 : decode cX7_takeWord 16 = .ok (.aload_n 0, 1) := by decide +kernel
theorem dX7_takeWord_17 : decode cX7_takeWord 17 = .ok (.getfield 13, 3) := by decide +kernel
theorem dX7_takeWord_20 : decode cX7_takeWord 20 = .ok (.aload_n 0, 1) := by decide +kernel
theorem dX7_takeWord_21 : decode cX7_takeWord 21 = .ok (.getfield 45, 3) := by decide +kernel
theorem dX7_takeWord_24 : decode cX7_takeWord 24 = .ok (.baload, 1) := by decide +kernel
theorem dX7_takeWord_25 : decode cX7_takeWord 25 = .ok (.bipush 97, 2) := by decide +kernel
theorem dX7_takeWord_27 : decode cX7_takeWord 27 = .ok (.bipush 122, 2) := by decide +kernel
theorem dX7_takeWord_29 : decode cX7_takeWord 29 = .ok (.invokestatic 51, 3) := by decide +kernel
theorem dX7_takeWord_32 : decode cX7_takeWord 32 = .ok (.ifCond .eq 36, 3) := by decide +kernel
theorem dX7_takeWord_35 : decode cX7_takeWord 35 = .ok (.aload_n 0, 1) := by decide +kernel
theorem dX7_takeWord_36 : decode cX7_takeWord 36 = .ok (.aload_n 0, 1) := by decide +kernel
theorem dX7_takeWord_37 : decode cX7_takeWord 37 = .ok (.getfield 71, 3) := by decide +kernel
theorem dX7_takeWord_40 : decode cX7_takeWord 40 = .ok (.aload_n 0, 1) := by decide +kernel
theorem dX7_takeWord_41 : decode cX7_takeWord 41 = .ok (.getfield 13, 3) := by decide +kernel
theorem dX7_takeWord_44 : decode cX7_takeWord 44 = .ok (.aload_n 0, 1) := by decide +kernel
theorem dX7_takeWord_45 : decode cX7_takeWord 45 = .ok (.getfield 45, 3) := by decide +kernel
theorem dX7_takeWord_48 : decode cX7_takeWord 48 = .ok (.baload, 1) := by decide +kernel
theorem dX7_takeWord_49 : decode cX7_takeWord 49 = .ok (.invokestatic 75, 3) := by decide +kernel
theorem dX7_takeWord_52 : decode cX7_takeWord 52 = .ok (.putfield 71, 3) := by decide +kernel
theorem dX7_takeWord_55 : decode cX7_takeWord 55 = .ok (.aload_n 0, 1) := by decide +kernel
theorem dX7_takeWord_56 : decode cX7_takeWord 56 = .ok (.dup, 1) := by decide +kernel
theorem dX7_takeWord_57 : decode cX7_takeWord 57 = .ok (.getfield 45, 3) := by decide +kernel
theorem dX7_takeWord_60 : decode cX7_takeWord 60 = .ok (.iconst 1, 1) := by decide +kernel
theorem dX7_takeWord_61 : decode cX7_takeWord 61 = .ok (.iadd, 1) := by decide +kernel
theorem dX7_takeWord_62 : decode cX7_takeWord 62 = .ok (.putfield 45, 3) := by decide +kernel
theorem dX7_takeWord_65 : decode cX7_takeWord 65 = .ok (.goto (-60), 3) := by decide +kernel
theorem dX7_takeWord_68 : decode cX7_takeWord 68 = .ok (.aload_n 0, 1) := by decide +kernel
theorem dX7_takeWord_69 : decode cX7_takeWord 69 = .ok (.aload_n 0, 1) := by decide +kernel
theorem dX7_takeWord_70 : decode cX7_takeWord 70 = .ok (.getfield 45, 3) := by decide +kernel
theorem dX7_takeWord_73 : decode cX7_takeWord 73 = .ok (.aload_n 0, 1) := by decide +kernel
theorem dX7_takeWord_74 : decode cX7_takeWord 74 = .ok (.getfield 48, 3) := by decide +kernel
theorem dX7_takeWord_77 : decode cX7_takeWord 77 = .ok (.isub, 1) := by decide +kernel
theorem dX7_takeWord_78 : decode cX7_takeWord 78 = .ok (.bipush 8, 2) := by decide +kernel
theorem dX7_takeWord_80 : decode cX7_takeWord 80 = .ok (.if_icmp .gt 7, 3) := by decide +kernel
theorem dX7_takeWord_83 : decode cX7_takeWord 83 = .ok (.iconst 2, 1) := by decide +kernel
theorem dX7_takeWord_84 : decode cX7_takeWord 84 = .ok (.goto 4, 3) := by decide +kernel
theorem dX7_takeWord_87 : decode cX7_takeWord 87 = .ok (.iconst 1, 1) := by decide +kernel
theorem dX7_takeWord_88 : decode cX7_takeWord 88 = .ok (.putfield 29, 3) := by decide +kernel
theorem dX7_takeWord_91 : decode cX7_takeWord 91 = .ok (.aload_n 0, 1) := by decide +kernel
theorem dX7_takeWord_92 : decode cX7_takeWord 92 = .ok (.getfield 29, 3) := by decide +kernel
theorem dX7_takeWord_95 : decode cX7_takeWord 95 = .ok (.iconst 2, 1) := by decide +kernel
theorem dX7_takeWord_96 : decode cX7_takeWord 96 = .ok (.if_icmp .ne 14, 3) := by decide +kernel
theorem dX7_takeWord_99 : decode cX7_takeWord 99 = .ok (.aload_n 0, 1) := by decide +kernel
theorem dX7_takeWord_100 : decode cX7_takeWord 100 = .ok (.aload_n 0, 1) := by decide +kernel
theorem dX7_takeWord_101 : decode cX7_takeWord 101 = .ok (.getfield 71, 3) := by decide +kernel
theorem dX7_takeWord_104 : decode cX7_takeWord 104 = .ok (.invokestatic 79, 3) := by decide +kernel
theorem dX7_takeWord_107 : decode cX7_takeWord 107 = .ok (.putfield 35, 3) := by decide +kernel
theorem dX7_takeWord_110 : decode cX7_takeWord 110 = .ok (.return_, 1) := by decide +kernel
theorem dX7_takeNumber_0 : decode cX7_takeNumber 0 = .ok (.aload_n 0, 1) := by decide +kernel
theorem dX7_takeNumber_1 : decode cX7_takeNumber 1 = .ok (.iconst 0, 1) := by decide +kernel
theorem dX7_takeNumber_2 : decode cX7_takeNumber 2 = .ok (.putfield 83, 3) := by decide +kernel
theorem dX7_takeNumber_5 : decode cX7_takeNumber 5 = .ok (.aload_n 0, 1) := by decide +kernel
theorem dX7_takeNumber_6 : decode cX7_takeNumber 6 = .ok (.getfield 45, 3) := by decide +kernel
theorem dX7_takeNumber_9 : decode cX7_takeNumber 9 = .ok (.aload_n 0, 1) := by decide +kernel
theorem dX7_takeNumber_10 : decode cX7_takeNumber 10 = .ok (.getfield 26, 3) := by decide +kernel
theorem dX7_takeNumber_13 : decode cX7_takeNumber 13 = .ok (.if_icmp .ge 59, 3) := by decide +kernel
theorem dX7_takeNumber_16 : decode cX7_takeNumber 16 = .ok (.aload_n 0, 1) := by decide +kernel
theorem dX7_takeNumber_17 : decode cX7_takeNumber 17 = .ok (.getfield 13, 3) := by decide +kernel
theorem dX7_takeNumber_20 : decode cX7_takeNumber 20 = .ok (.aload_n 0, 1) := by decide +kernel
theorem dX7_takeNumber_21 : decode cX7_takeNumber 21 = .ok (.getfield 45, 3) := by decide +kernel
theorem dX7_takeNumber_24 : decode cX7_takeNumber 24 = .ok (.baload, 1) := by decide +kernel
theorem dX7_takeNumber_25 : decode cX7_takeNumber 25 = .ok (.bipush 48, 2) := by decide +kernel
theorem dX7_takeNumber_27 : decode cX7_takeNumber 27 = .ok (.bipush 57, 2) := by decide +kernel
theorem dX7_takeNumber_29 : decode cX7_takeNumber 29 = .ok (.invokestatic 51, 3) := by decide +kernel
theorem dX7_takeNumber_32 : decode cX7_takeNumber 32 = .ok (.ifCond .eq 40, 3) := by decide +kernel
theorem dX7_takeNumber_35 : decode cX7_takeNumber 35 = .ok (.aload_n 0, 1) := by decide +kernel
theorem dX7_takeNumber_36 : decode cX7_takeNumber 36 = .ok (.aload_n 0, 1) := by decide +kernel
theorem dX7_takeNumber_37 : decode cX7_takeNumber 37 = .ok (.getfield 83, 3) := by decide +kernel
theorem dX7_takeNumber_40 : decode cX7_takeNumber 40 = .ok (.bipush 10, 2) := by decide +kernel
theorem dX7_takeNumber_42 : decode cX7_takeNumber 42 = .ok (.imul, 1) := by decide +kernel
theorem dX7_takeNumber_43 : decode cX7_takeNumber 43 = .ok (.aload_n 0, 1) := by decide +kernel
theorem dX7_takeNumber_44 : decode cX7_takeNumber 44 = .ok (.getfield 13, 3) := by decide +kernel
theorem dX7_takeNumber_47 : decode cX7_takeNumber 47 = .ok (.aload_n 0, 1) := by decide +kernel
theorem dX7_takeNumber_48 : decode cX7_takeNumber 48 = .ok (.getfield 45, 3) := by decide +kernel
theorem dX7_takeNumber_51 : decode cX7_takeNumber 51 = .ok (.baload, 1) := by decide +kernel
theorem dX7_takeNumber_52 : decode cX7_takeNumber 52 = .ok (.bipush 48, 2) := by decide +kernel
theorem dX7_takeNumber_54 : decode cX7_takeNumber 54 = .ok (.isub, 1) := by decide +kernel
theorem dX7_takeNumber_55 : decode cX7_takeNumber 55 = .ok (.iadd, 1) := by decide +kernel
theorem dX7_takeNumber_56 : decode cX7_takeNumber 56 = .ok (.putfield 83, 3) := by decide +kernel
theorem dX7_takeNumber_59 : decode cX7_takeNumber 59 = .ok (.aload_n 0, 1) := by decide +kernel
theorem dX7_takeNumber_60 : decode cX7_takeNumber 60 = .ok (.dup, 1) := by decide +kernel
theorem dX7_takeNumber_61 : decode cX7_takeNumber 61 = .ok (.getfield 45, 3) := by decide +kernel
theorem dX7_takeNumber_64 : decode cX7_takeNumber 64 = .ok (.iconst 1, 1) := by decide +kernel
theorem dX7_takeNumber_65 : decode cX7_takeNumber 65 = .ok (.iadd, 1) := by decide +kernel
theorem dX7_takeNumber_66 : decode cX7_takeNumber 66 = .ok (.putfield 45, 3) := by decide +kernel
theorem dX7_takeNumber_69 : decode cX7_takeNumber 69 = .ok (.goto (-64), 3) := by decide +kernel
theorem dX7_takeNumber_72 : decode cX7_takeNumber 72 = .ok (.aload_n 0, 1) := by decide +kernel
theorem dX7_takeNumber_73 : decode cX7_takeNumber 73 = .ok (.aload_n 0, 1) := by decide +kernel
theorem dX7_takeNumber_74 : decode cX7_takeNumber 74 = .ok (.getfield 45, 3) := by decide +kernel
theorem dX7_takeNumber_77 : decode cX7_takeNumber 77 = .ok (.aload_n 0, 1) := by decide +kernel
theorem dX7_takeNumber_78 : decode cX7_takeNumber 78 = .ok (.getfield 48, 3) := by decide +kernel
theorem dX7_takeNumber_81 : decode cX7_takeNumber 81 = .ok (.isub, 1) := by decide +kernel
theorem dX7_takeNumber_82 : decode cX7_takeNumber 82 = .ok (.iconst 4, 1) := by decide +kernel
theorem dX7_takeNumber_83 : decode cX7_takeNumber 83 = .ok (.if_icmp .gt 7, 3) := by decide +kernel
theorem dX7_takeNumber_86 : decode cX7_takeNumber 86 = .ok (.iconst 3, 1) := by decide +kernel
theorem dX7_takeNumber_87 : decode cX7_takeNumber 87 = .ok (.goto 4, 3) := by decide +kernel
theorem dX7_takeNumber_90 : decode cX7_takeNumber 90 = .ok (.iconst 1, 1) := by decide +kernel
theorem dX7_takeNumber_91 : decode cX7_takeNumber 91 = .ok (.putfield 29, 3) := by decide +kernel
theorem dX7_takeNumber_94 : decode cX7_takeNumber 94 = .ok (.return_, 1) := by decide +kernel
theorem dX8_named_0 : decode cX8_named 0 = .ok (.iconst 0, 1) := by decide +kernel
theorem dX8_named_1 : decode cX8_named 1 = .ok (.istore_n 2, 1) := by decide +kernel
theorem dX8_named_2 : decode cX8_named 2 = .ok (.iload_n 2, 1) := by decide +kernel
theorem dX8_named_3 : decode cX8_named 3 = .ok (.getstatic 119, 3) := by decide +kernel
theorem dX8_named_6 : decode cX8_named 6 = .ok (.arraylength, 1) := by decide +kernel
theorem dX8_named_7 : decode cX8_named 7 = .ok (.if_icmp .ge 28, 3) := by decide +kernel
theorem dX8_named_10 : decode cX8_named 10 = .ok (.getstatic 119, 3) := by decide +kernel
theorem dX8_named_13 : decode cX8_named 13 = .ok (.iload_n 2, 1) := by decide +kernel
theorem dX8_named_14 : decode cX8_named 14 = .ok (.aaload, 1) := by decide +kernel
theorem dX8_named_15 : decode cX8_named 15 = .ok (.getfield 107, 3) := by decide +kernel
theorem dX8_named_18 : decode cX8_named 18 = .ok (.lload_n 0, 1) := by decide +kernel
end
section
theorem dX8_named_19 : decode cX8_named 19 = .ok (.lcmp, 1) := by decide +kernel
theorem dX8_named_20 : decode cX8_named 20 = .ok (.ifCond .ne 9, 3) := by decide +kernel
theorem dX8_named_23 : decode cX8_named 23 = .ok (.getstatic 119, 3) := by decide +kernel
theorem dX8_named_26 : decode cX8_named 26 = .ok (.iload_n 2, 1) := by decide +kernel
theorem dX8_named_27 : decode cX8_named 27 = .ok (.aaload, 1) := by decide +kernel
theorem dX8_named_28 : decode cX8_named 28 = .ok (.areturn, 1) := by decide +kernel
theorem dX8_named_29 : decode cX8_named 29 = .ok (.iinc 2 1, 3) := by decide +kernel
theorem dX8_named_32 : decode cX8_named 32 = .ok (.goto (-30), 3) := by decide +kernel
theorem dX8_named_35 : decode cX8_named 35 = .ok (.aconst_null, 1) := by decide +kernel
theorem dX8_named_36 : decode cX8_named 36 = .ok (.areturn, 1) := by decide +kernel
theorem dX9_init_0 : decode cX9_init 0 = .ok (.aload_n 0, 1) := by decide +kernel
theorem dX9_init_1 : decode cX9_init 1 = .ok (.invokespecial 3, 3) := by decide +kernel
theorem dX9_init_4 : decode cX9_init 4 = .ok (.aload_n 0, 1) := by decide +kernel
theorem dX9_init_5 : decode cX9_init 5 = .ok (.new 9, 3) := by decide +kernel
theorem dX9_init_8 : decode cX9_init 8 = .ok (.dup, 1) := by decide +kernel
theorem dX9_init_9 : decode cX9_init 9 = .ok (.invokespecial 11, 3) := by decide +kernel
theorem dX9_init_12 : decode cX9_init 12 = .ok (.putfield 12, 3) := by decide +kernel
theorem dX9_init_15 : decode cX9_init 15 = .ok (.new 16, 3) := by decide +kernel
theorem dX9_init_18 : decode cX9_init 18 = .ok (.dup, 1) := by decide +kernel
theorem dX9_init_19 : decode cX9_init 19 = .ok (.invokespecial 18, 3) := by decide +kernel
theorem dX9_init_22 : decode cX9_init 22 = .ok (.astore_n 1, 1) := by decide +kernel
theorem dX9_init_23 : decode cX9_init 23 = .ok (.aload_n 0, 1) := by decide +kernel
theorem dX9_init_24 : decode cX9_init 24 = .ok (.new 19, 3) := by decide +kernel
theorem dX9_init_27 : decode cX9_init 27 = .ok (.dup, 1) := by decide +kernel
theorem dX9_init_28 : decode cX9_init 28 = .ok (.aload_n 1, 1) := by decide +kernel
theorem dX9_init_29 : decode cX9_init 29 = .ok (.invokespecial 21, 3) := by decide +kernel
theorem dX9_init_32 : decode cX9_init 32 = .ok (.putfield 24, 3) := by decide +kernel
theorem dX9_init_35 : decode cX9_init 35 = .ok (.aload_n 0, 1) := by decide +kernel
theorem dX9_init_36 : decode cX9_init 36 = .ok (.new 19, 3) := by decide +kernel
theorem dX9_init_39 : decode cX9_init 39 = .ok (.dup, 1) := by decide +kernel
theorem dX9_init_40 : decode cX9_init 40 = .ok (.aload_n 1, 1) := by decide +kernel
theorem dX9_init_41 : decode cX9_init 41 = .ok (.invokespecial 21, 3) := by decide +kernel
theorem dX9_init_44 : decode cX9_init 44 = .ok (.putfield 28, 3) := by decide +kernel
theorem dX9_init_47 : decode cX9_init 47 = .ok (.aload_n 0, 1) := by decide +kernel
theorem dX9_init_48 : decode cX9_init 48 = .ok (.iconst 4, 1) := by decide +kernel
theorem dX9_init_49 : decode cX9_init 49 = .ok (.anewarray 19, 3) := by decide +kernel
theorem dX9_init_52 : decode cX9_init 52 = .ok (.putfield 31, 3) := by decide +kernel
theorem dX9_init_55 : decode cX9_init 55 = .ok (.aload_n 0, 1) := by decide +kernel
theorem dX9_init_56 : decode cX9_init 56 = .ok (.bipush 10, 2) := by decide +kernel
theorem dX9_init_58 : decode cX9_init 58 = .ok (.newarray .int, 2) := by decide +kernel
theorem dX9_init_60 : decode cX9_init 60 = .ok (.putfield 35, 3) := by decide +kernel
theorem dX9_init_63 : decode cX9_init 63 = .ok (.aload_n 0, 1) := by decide +kernel
theorem dX9_init_64 : decode cX9_init 64 = .ok (.bipush 10, 2) := by decide +kernel
theorem dX9_init_66 : decode cX9_init 66 = .ok (.newarray .int, 2) := by decide +kernel
theorem dX9_init_68 : decode cX9_init 68 = .ok (.putfield 39, 3) := by decide +kernel
theorem dX9_init_71 : decode cX9_init 71 = .ok (.aload_n 0, 1) := by decide +kernel
theorem dX9_init_72 : decode cX9_init 72 = .ok (.sipush 240, 3) := by decide +kernel
theorem dX9_init_75 : decode cX9_init 75 = .ok (.newarray .int, 2) := by decide +kernel
theorem dX9_init_77 : decode cX9_init 77 = .ok (.putfield 42, 3) := by decide +kernel
theorem dX9_init_80 : decode cX9_init 80 = .ok (.aload_n 0, 1) := by decide +kernel
theorem dX9_init_81 : decode cX9_init 81 = .ok (.sipush 240, 3) := by decide +kernel
theorem dX9_init_84 : decode cX9_init 84 = .ok (.newarray .int, 2) := by decide +kernel
theorem dX9_init_86 : decode cX9_init 86 = .ok (.putfield 45, 3) := by decide +kernel
theorem dX9_init_89 : decode cX9_init 89 = .ok (.aload_n 0, 1) := by decide +kernel
theorem dX9_init_90 : decode cX9_init 90 = .ok (.bipush 8, 2) := by decide +kernel
theorem dX9_init_92 : decode cX9_init 92 = .ok (.newarray .int, 2) := by decide +kernel
theorem dX9_init_94 : decode cX9_init 94 = .ok (.putfield 48, 3) := by decide +kernel
theorem dX9_init_97 : decode cX9_init 97 = .ok (.return_, 1) := by decide +kernel
theorem dX9_feed_0 : decode cX9_feed 0 = .ok (.aload_n 0, 1) := by decide +kernel
theorem dX9_feed_1 : decode cX9_feed 1 = .ok (.getfield 12, 3) := by decide +kernel
theorem dX9_feed_4 : decode cX9_feed 4 = .ok (.lload_n 1, 1) := by decide +kernel
theorem dX9_feed_5 : decode cX9_feed 5 = .ok (.invokevirtual 51, 3) := by decide +kernel
theorem dX9_feed_8 : decode cX9_feed 8 = .ok (.aload_n 0, 1) := by decide +kernel
theorem dX9_feed_9 : decode cX9_feed 9 = .ok (.getfield 12, 3) := by decide +kernel
theorem dX9_feed_12 : decode cX9_feed 12 = .ok (.lload_n 3, 1) := by decide +kernel
theorem dX9_feed_13 : decode cX9_feed 13 = .ok (.invokevirtual 51, 3) := by decide +kernel
theorem dX9_feed_16 : decode cX9_feed 16 = .ok (.aload_n 0, 1) := by decide +kernel
theorem dX9_feed_17 : decode cX9_feed 17 = .ok (.getfield 12, 3) := by decide +kernel
theorem dX9_feed_20 : decode cX9_feed 20 = .ok (.lload 5, 2) := by decide +kernel
theorem dX9_feed_22 : decode cX9_feed 22 = .ok (.invokevirtual 51, 3) := by decide +kernel
theorem dX9_feed_25 : decode cX9_feed 25 = .ok (.aload_n 0, 1) := by decide +kernel
theorem dX9_feed_26 : decode cX9_feed 26 = .ok (.getfield 12, 3) := by decide +kernel
theorem dX9_feed_29 : decode cX9_feed 29 = .ok (.getfield 55, 3) := by decide +kernel
theorem dX9_feed_32 : decode cX9_feed 32 = .ok (.ireturn, 1) := by decide +kernel
theorem dX9_prison_0 : decode cX9_prison 0 = .ok (.new 59, 3) := by decide +kernel
theorem dX9_prison_3 : decode cX9_prison 3 = .ok (.dup, 1) := by decide +kernel
theorem dX9_prison_4 : decode cX9_prison 4 = .ok (.aload_n 0, 1) := by decide +kernel
theorem dX9_prison_5 : decode cX9_prison 5 = .ok (.getfield 12, 3) := by decide +kernel
theorem dX9_prison_8 : decode cX9_prison 8 = .ok (.invokespecial 61, 3) := by decide +kernel
theorem dX9_prison_11 : decode cX9_prison 11 = .ok (.astore_n 1, 1) := by decide +kernel
theorem dX9_prison_12 : decode cX9_prison 12 = .ok (.aload_n 1, 1) := by decide +kernel
theorem dX9_prison_13 : decode cX9_prison 13 = .ok (.invokevirtual 64, 3) := by decide +kernel
theorem dX9_prison_16 : decode cX9_prison 16 = .ok (.istore_n 2, 1) := by decide +kernel
theorem dX9_prison_17 : decode cX9_prison 17 = .ok (.aload_n 0, 1) := by decide +kernel
theorem dX9_prison_18 : decode cX9_prison 18 = .ok (.getfield 12, 3) := by decide +kernel
theorem dX9_prison_21 : decode cX9_prison 21 = .ok (.iconst 0, 1) := by decide +kernel
theorem dX9_prison_22 : decode cX9_prison 22 = .ok (.putfield 55, 3) := by decide +kernel
theorem dX9_prison_25 : decode cX9_prison 25 = .ok (.iload_n 2, 1) := by decide +kernel
theorem dX9_prison_26 : decode cX9_prison 26 = .ok (.ifCond .ne 14, 3) := by decide +kernel
theorem dX9_prison_29 : decode cX9_prison 29 = .ok (.aload_n 0, 1) := by decide +kernel
theorem dX9_prison_30 : decode cX9_prison 30 = .ok (.getfield 24, 3) := by decide +kernel
theorem dX9_prison_33 : decode cX9_prison 33 = .ok (.aload_n 1, 1) := by decide +kernel
theorem dX9_prison_34 : decode cX9_prison 34 = .ok (.getfield 68, 3) := by decide +kernel
theorem dX9_prison_37 : decode cX9_prison 37 = .ok (.invokevirtual 72, 3) := by decide +kernel
theorem dX9_prison_40 : decode cX9_prison 40 = .ok (.iload_n 2, 1) := by decide +kernel
theorem dX9_prison_41 : decode cX9_prison 41 = .ok (.ireturn, 1) := by decide +kernel
theorem dX9_cell_0 : decode cX9_cell 0 = .ok (.iload_n 1, 1) := by decide +kernel
theorem dX9_cell_1 : decode cX9_cell 1 = .ok (.aload_n 0, 1) := by decide +kernel
theorem dX9_cell_2 : decode cX9_cell 2 = .ok (.getfield 24, 3) := by decide +kernel
theorem dX9_cell_5 : decode cX9_cell 5 = .ok (.getfield 75, 3) := by decide +kernel
theorem dX9_cell_8 : decode cX9_cell 8 = .ok (.getfield 76, 3) := by decide +kernel
theorem dX9_cell_11 : decode cX9_cell 11 = .ok (.invokestatic 79, 3) := by decide +kernel
theorem dX9_cell_14 : decode cX9_cell 14 = .ok (.ifCond .ne 5, 3) := by decide +kernel
theorem dX9_cell_17 : decode cX9_cell 17 = .ok (.iconst (-1), 1) := by decide +kernel
theorem dX9_cell_18 : decode cX9_cell 18 = .ok (.ireturn, 1) := by decide +kernel
theorem dX9_cell_19 : decode cX9_cell 19 = .ok (.iload_n 2, 1) := by decide +kernel
theorem dX9_cell_20 : decode cX9_cell 20 = .ok (.tableswitch 73 0 3 #[32, 42, 52, 61], 32) := by decide +kernel
theorem dX9_cell_52 : decode cX9_cell 52 = .ok (.aload_n 0, 1) := by decide +kernel
theorem dX9_cell_53 : decode cX9_cell 53 = .ok (.getfield 24, 3) := by decide +kernel
theorem dX9_cell_56 : decode cX9_cell 56 = .ok (.getfield 83, 3) := by decide +kernel
theorem dX9_cell_59 : decode cX9_cell 59 = .ok (.iload_n 1, 1) := by decide +kernel
theorem dX9_cell_60 : decode cX9_cell 60 = .ok (.iaload, 1) := by decide +kernel
theorem dX9_cell_61 : decode cX9_cell 61 = .ok (.ireturn, 1) := by decide +kernel
theorem dX9_cell_62 : decode cX9_cell 62 = .ok (.aload_n 0, 1) := by decide +kernel
theorem dX9_cell_63 : decode cX9_cell 63 = .ok (.getfield 24, 3) := by decide +kernel
theorem dX9_cell_66 : decode cX9_cell 66 = .ok (.iload_n 1, 1) := by decide +kernel
theorem dX9_cell_67 : decode cX9_cell 67 = .ok (.iconst (-1), 1) := by decide +kernel
theorem dX9_cell_68 : decode cX9_cell 68 = .ok (.invokevirtual 86, 3) := by decide +kernel
theorem dX9_cell_71 : decode cX9_cell 71 = .ok (.ireturn, 1) := by decide +kernel
theorem dX9_cell_72 : decode cX9_cell 72 = .ok (.aload_n 0, 1) := by decide +kernel
theorem dX9_cell_73 : decode cX9_cell 73 = .ok (.getfield 24, 3) := by decide +kernel
theorem dX9_cell_76 : decode cX9_cell 76 = .ok (.iload_n 1, 1) := by decide +kernel
theorem dX9_cell_77 : decode cX9_cell 77 = .ok (.invokevirtual 90, 3) := by decide +kernel
theorem dX9_cell_80 : decode cX9_cell 80 = .ok (.ireturn, 1) := by decide +kernel
theorem dX9_cell_81 : decode cX9_cell 81 = .ok (.aload_n 0, 1) := by decide +kernel
theorem dX9_cell_82 : decode cX9_cell 82 = .ok (.getfield 24, 3) := by decide +kernel
theorem dX9_cell_85 : decode cX9_cell 85 = .ok (.getfield 75, 3) := by decide +kernel
theorem dX9_cell_88 : decode cX9_cell 88 = .ok (.iload_n 1, 1) := by decide +kernel
theorem dX9_cell_89 : decode cX9_cell 89 = .ok (.invokevirtual 94, 3) := by decide +kernel
theorem dX9_cell_92 : decode cX9_cell 92 = .ok (.ireturn, 1) := by decide +kernel
theorem dX9_cell_93 : decode cX9_cell 93 = .ok (.iconst (-1), 1) := by decide +kernel
theorem dX9_cell_94 : decode cX9_cell 94 = .ok (.ireturn, 1) := by decide +kernel
theorem dX9_door_0 : decode cX9_door 0 = .ok (.iload_n 1, 1) := by decide +kernel
theorem dX9_door_1 : decode cX9_door 1 = .ok (.aload_n 0, 1) := by decide +kernel
theorem dX9_door_2 : decode cX9_door 2 = .ok (.getfield 24, 3) := by decide +kernel
theorem dX9_door_5 : decode cX9_door 5 = .ok (.getfield 75, 3) := by decide +kernel
theorem dX9_door_8 : decode cX9_door 8 = .ok (.getfield 97, 3) := by decide +kernel
theorem dX9_door_11 : decode cX9_door 11 = .ok (.invokestatic 79, 3) := by decide +kernel
theorem dX9_door_14 : decode cX9_door 14 = .ok (.ifCond .ne 5, 3) := by decide +kernel
theorem dX9_door_17 : decode cX9_door 17 = .ok (.iconst (-1), 1) := by decide +kernel
theorem dX9_door_18 : decode cX9_door 18 = .ok (.ireturn, 1) := by decide +kernel
theorem dX9_door_19 : decode cX9_door 19 = .ok (.iload_n 2, 1) := by decide +kernel
theorem dX9_door_20 : decode cX9_door 20 = .ok (.tableswitch 101 0 4 #[36, 49, 62, 75, 88], 36) := by decide +kernel
theorem dX9_door_56 : decode cX9_door 56 = .ok (.aload_n 0, 1) := by decide +kernel
theorem dX9_door_57 : decode cX9_door 57 = .ok (.getfield 24, 3) := by decide +kernel
theorem dX9_door_60 : decode cX9_door 60 = .ok (.getfield 100, 3) := by decide +kernel
theorem dX9_door_63 : decode cX9_door 63 = .ok (.iload_n 1, 1) := by decide +kernel
theorem dX9_door_64 : decode cX9_door 64 = .ok (.aaload, 1) := by decide +kernel
theorem dX9_door_65 : decode cX9_door 65 = .ok (.getfield 104, 3) := by decide +kernel
theorem dX9_door_68 : decode cX9_door 68 = .ok (.ireturn, 1) := by decide +kernel
theorem dX9_door_69 : decode cX9_door 69 = .ok (.aload_n 0, 1) := by decide +kernel
theorem dX9_door_70 : decode cX9_door 70 = .ok (.getfield 24, 3) := by decide +kernel
theorem dX9_door_73 : decode cX9_door 73 = .ok (.getfield 100, 3) := by decide +kernel
theorem dX9_door_76 : decode cX9_door 76 = .ok (.iload_n 1, 1) := by decide +kernel
theorem dX9_door_77 : decode cX9_door 77 = .ok (.aaload, 1) := by decide +kernel
theorem dX9_door_78 : decode cX9_door 78 = .ok (.getfield 109, 3) := by decide +kernel
theorem dX9_door_81 : decode cX9_door 81 = .ok (.ireturn, 1) := by decide +kernel
theorem dX9_door_82 : decode cX9_door 82 = .ok (.aload_n 0, 1) := by decide +kernel
theorem dX9_door_83 : decode cX9_door 83 = .ok (.getfield 24, 3) := by decide +kernel
theorem dX9_door_86 : decode cX9_door 86 = .ok (.getfield 100, 3) := by decide +kernel
theorem dX9_door_89 : decode cX9_door 89 = .ok (.iload_n 1, 1) := by decide +kernel
theorem dX9_door_90 : decode cX9_door 90 = .ok (.aaload, 1) := by decide +kernel
theorem dX9_door_91 : decode cX9_door 91 = .ok (.getfield 112, 3) := by decide +kernel
theorem dX9_door_94 : decode cX9_door 94 = .ok (.ireturn, 1) := by decide +kernel
theorem dX9_door_95 : decode cX9_door 95 = .ok (.aload_n 0, 1) := by decide +kernel
theorem dX9_door_96 : decode cX9_door 96 = .ok (.getfield 24, 3) := by decide +kernel
theorem dX9_door_99 : decode cX9_door 99 = .ok (.getfield 75, 3) := by decide +kernel
theorem dX9_door_102 : decode cX9_door 102 = .ok (.getfield 115, 3) := by decide +kernel
theorem dX9_door_105 : decode cX9_door 105 = .ok (.iload_n 1, 1) := by decide +kernel
theorem dX9_door_106 : decode cX9_door 106 = .ok (.iaload, 1) := by decide +kernel
theorem dX9_door_107 : decode cX9_door 107 = .ok (.ireturn, 1) := by decide +kernel
theorem dX9_door_108 : decode cX9_door 108 = .ok (.aload_n 0, 1) := by decide +kernel
theorem dX9_door_109 : decode cX9_door 109 = .ok (.getfield 24, 3) := by decide +kernel
theorem dX9_door_112 : decode cX9_door 112 = .ok (.getfield 75, 3) := by decide +kernel
theorem dX9_door_115 : decode cX9_door 115 = .ok (.getfield 118, 3) := by decide +kernel
theorem dX9_door_118 : decode cX9_door 118 = .ok (.iload_n 1, 1) := by decide +kernel
theorem dX9_door_119 : decode cX9_door 119 = .ok (.iaload, 1) := by decide +kernel
theorem dX9_door_120 : decode cX9_door 120 = .ok (.ireturn, 1) := by decide +kernel
theorem dX9_door_121 : decode cX9_door 121 = .ok (.iconst (-1), 1) := by decide +kernel
theorem dX9_door_122 : decode cX9_door 122 = .ok (.ireturn, 1) := by decide +kernel
theorem dX9_man_0 : decode cX9_man 0 = .ok (.iload_n 1, 1) := by decide +kernel
theorem dX9_man_1 : decode cX9_man 1 = .ok (.aload_n 0, 1) := by decide +kernel
theorem dX9_man_2 : decode cX9_man 2 = .ok (.getfield 24, 3) := by decide +kernel
theorem dX9_man_5 : decode cX9_man 5 = .ok (.getfield 75, 3) := by decide +kernel
theorem dX9_man_8 : decode cX9_man 8 = .ok (.getfield 121, 3) := by decide +kernel
theorem dX9_man_11 : decode cX9_man 11 = .ok (.invokestatic 79, 3) := by decide +kernel
theorem dX9_man_14 : decode cX9_man 14 = .ok (.ifCond .ne 13, 3) := by decide +kernel
theorem dX9_man_17 : decode cX9_man 17 = .ok (.new 124, 3) := by decide +kernel
theorem dX9_man_20 : decode cX9_man 20 = .ok (.dup, 1) := by decide +kernel
theorem dX9_man_21 : decode cX9_man 21 = .ok (.ldc 126, 2) := by decide +kernel
theorem dX9_man_23 : decode cX9_man 23 = .ok (.invokespecial 128, 3) := by decide +kernel
theorem dX9_man_26 : decode cX9_man 26 = .ok (.athrow, 1) := by decide +kernel
theorem dX9_man_27 : decode cX9_man 27 = .ok (.iload_n 2, 1) := by decide +kernel
theorem dX9_man_28 : decode cX9_man 28 = .ok (.tableswitch 61 0 2 #[28, 38, 48], 28) := by decide +kernel
theorem dX9_man_56 : decode cX9_man 56 = .ok (.aload_n 0, 1) := by decide +kernel
theorem dX9_man_57 : decode cX9_man 57 = .ok (.getfield 24, 3) := by decide +kernel
theorem dX9_man_60 : decode cX9_man 60 = .ok (.getfield 131, 3) := by decide +kernel
theorem dX9_man_63 : decode cX9_man 63 = .ok (.iload_n 1, 1) := by decide +kernel
theorem dX9_man_64 : decode cX9_man 64 = .ok (.iaload, 1) := by decide +kernel
theorem dX9_man_65 : decode cX9_man 65 = .ok (.ireturn, 1) := by decide +kernel
theorem dX9_man_66 : decode cX9_man 66 = .ok (.aload_n 0, 1) := by decide +kernel
theorem dX9_man_67 : decode cX9_man 67 = .ok (.getfield 24, 3) := by decide +kernel
theorem dX9_man_70 : decode cX9_man 70 = .ok (.getfield 134, 3) := by decide +kernel
theorem dX9_man_73 : decode cX9_man 73 = .ok (.iload_n 1, 1) := by decide +kernel
theorem dX9_man_74 : decode cX9_man 74 = .ok (.iaload, 1) := by decide +kernel
theorem dX9_man_75 : decode cX9_man 75 = .ok (.ireturn, 1) := by decide +kernel
theorem dX9_man_76 : decode cX9_man 76 = .ok (.aload_n 0, 1) := by decide +kernel
theorem dX9_man_77 : decode cX9_man 77 = .ok (.getfield 24, 3) := by decide +kernel
theorem dX9_man_80 : decode cX9_man 80 = .ok (.getfield 75, 3) := by decide +kernel
theorem dX9_man_83 : decode cX9_man 83 = .ok (.getfield 137, 3) := by decide +kernel
theorem dX9_man_86 : decode cX9_man 86 = .ok (.iload_n 1, 1) := by decide +kernel
theorem dX9_man_87 : decode cX9_man 87 = .ok (.iaload, 1) := by decide +kernel
theorem dX9_man_88 : decode cX9_man 88 = .ok (.ireturn, 1) := by decide +kernel
theorem dX9_man_89 : decode cX9_man 89 = .ok (.new 124, 3) := by decide +kernel
theorem dX9_man_92 : decode cX9_man 92 = .ok (.dup, 1) := by decide +kernel
theorem dX9_man_93 : decode cX9_man 93 = .ok (.ldc 140, 2) := by decide +kernel
theorem dX9_man_95 : decode cX9_man 95 = .ok (.invokespecial 128, 3) := by decide +kernel
theorem dX9_man_98 : decode cX9_man 98 = .ok (.athrow, 1) := by decide +kernel
theorem dX9_degrees_0 : decode cX9_degrees 0 = .ok (.iload_n 1, 1) := by decide +kernel
theorem dX9_degrees_1 : decode cX9_degrees 1 = .ok (.iconst 0, 1) := by decide +kernel
theorem dX9_degrees_2 : decode cX9_degrees 2 = .ok (.sipush 9999, 3) := by decide +kernel
theorem dX9_degrees_5 : decode cX9_degrees 5 = .ok (.invokestatic 142, 3) := by decide +kernel
theorem dX9_degrees_8 : decode cX9_degrees 8 = .ok (.ifCond .ne 13, 3) := by decide +kernel
theorem dX9_degrees_11 : decode cX9_degrees 11 = .ok (.new 124, 3) := by decide +kernel
theorem dX9_degrees_14 : decode cX9_degrees 14 = .ok (.dup, 1) := by decide +kernel
theorem dX9_degrees_15 : decode cX9_degrees 15 = .ok (.ldc 146, 2) := by decide +kernel
theorem dX9_degrees_17 : decode cX9_degrees 17 = .ok (.invokespecial 128, 3) := by decide +kernel
theorem dX9_degrees_20 : decode cX9_degrees 20 = .ok (.athrow, 1) := by decide +kernel
theorem dX9_degrees_21 : decode cX9_degrees 21 = .ok (.aload_n 0, 1) := by decide +kernel
theorem dX9_degrees_22 : decode cX9_degrees 22 = .ok (.getfield 24, 3) := by decide +kernel
theorem dX9_degrees_25 : decode cX9_degrees 25 = .ok (.iload_n 1, 1) := by decide +kernel
theorem dX9_degrees_26 : decode cX9_degrees 26 = .ok (.iconst 0, 1) := by decide +kernel
theorem dX9_degrees_27 : decode cX9_degrees 27 = .ok (.invokevirtual 148, 3) := by decide +kernel
theorem dX9_degrees_30 : decode cX9_degrees 30 = .ok (.ireturn, 1) := by decide +kernel
theorem dX9_pour_0 : decode cX9_pour 0 = .ok (.iload_n 1, 1) := by decide +kernel
theorem dX9_pour_1 : decode cX9_pour 1 = .ok (.aload_n 0, 1) := by decide +kernel
theorem dX9_pour_2 : decode cX9_pour 2 = .ok (.getfield 24, 3) := by decide +kernel
theorem dX9_pour_5 : decode cX9_pour 5 = .ok (.getfield 75, 3) := by decide +kernel
theorem dX9_pour_8 : decode cX9_pour 8 = .ok (.getfield 97, 3) := by decide +kernel
theorem dX9_pour_11 : decode cX9_pour 11 = .ok (.invokestatic 79, 3) := by decide +kernel
theorem dX9_pour_14 : decode cX9_pour 14 = .ok (.ifCond .eq 13, 3) := by decide +kernel
theorem dX9_pour_17 : decode cX9_pour 17 = .ok (.iload_n 2, 1) := by decide +kernel
theorem dX9_pour_18 : decode cX9_pour 18 = .ok (.iconst 0, 1) := by decide +kernel
theorem dX9_pour_19 : decode cX9_pour 19 = .ok (.bipush 99, 2) := by decide +kernel
theorem dX9_pour_21 : decode cX9_pour 21 = .ok (.invokestatic 142, 3) := by decide +kernel
theorem dX9_pour_24 : decode cX9_pour 24 = .ok (.ifCond .ne 5, 3) := by decide +kernel
theorem dX9_pour_27 : decode cX9_pour 27 = .ok (.iconst (-1), 1) := by decide +kernel
theorem dX9_pour_28 : decode cX9_pour 28 = .ok (.ireturn, 1) := by decide +kernel
theorem dX9_pour_29 : decode cX9_pour 29 = .ok (.aload_n 0, 1) := by decide +kernel
theorem dX9_pour_30 : decode cX9_pour 30 = .ok (.getfield 24, 3) := by decide +kernel
theorem dX9_pour_33 : decode cX9_pour 33 = .ok (.getfield 100, 3) := by decide +kernel
theorem dX9_pour_36 : decode cX9_pour 36 = .ok (.iload_n 1, 1) := by decide +kernel
theorem dX9_pour_37 : decode cX9_pour 37 = .ok (.aaload, 1) := by decide +kernel
theorem dX9_pour_38 : decode cX9_pour 38 = .ok (.iload_n 2, 1) := by decide +kernel
theorem dX9_pour_39 : decode cX9_pour 39 = .ok (.invokevirtual 151, 3) := by decide +kernel
theorem dX9_pour_42 : decode cX9_pour 42 = .ok (.ireturn, 1) := by decide +kernel
theorem dX9_salt_0 : decode cX9_salt 0 = .ok (.aload_n 0, 1) := by decide +kernel
theorem dX9_salt_1 : decode cX9_salt 1 = .ok (.iload_n 1, 1) := by decide +kernel
theorem dX9_salt_2 : decode cX9_salt 2 = .ok (.invokevirtual 154, 3) := by decide +kernel
theorem dX9_salt_5 : decode cX9_salt 5 = .ok (.ifCond .eq 20, 3) := by decide +kernel
theorem dX9_salt_8 : decode cX9_salt 8 = .ok (.iload_n 2, 1) := by decide +kernel
theorem dX9_salt_9 : decode cX9_salt 9 = .ok (.aload_n 0, 1) := by decide +kernel
theorem dX9_salt_10 : decode cX9_salt 10 = .ok (.getfield 24, 3) := by decide +kernel
theorem dX9_salt_13 : decode cX9_salt 13 = .ok (.getfield 75, 3) := by decide +kernel
theorem dX9_salt_16 : decode cX9_salt 16 = .ok (.getfield 97, 3) := by decide +kernel
theorem dX9_salt_19 : decode cX9_salt 19 = .ok (.invokestatic 79, 3) := by decide +kernel
theorem dX9_salt_22 : decode cX9_salt 22 = .ok (.ifCond .ne 5, 3) := by decide +kernel
theorem dX9_salt_25 : decode cX9_salt 25 = .ok (.iconst 0, 1) := by decide +kernel
theorem dX9_salt_26 : decode cX9_salt 26 = .ok (.ireturn, 1) := by decide +kernel
theorem dX9_salt_27 : decode cX9_salt 27 = .ok (.aload_n 0, 1) := by decide +kernel
theorem dX9_salt_28 : decode cX9_salt 28 = .ok (.getfield 24, 3) := by decide +kernel
theorem dX9_salt_31 : decode cX9_salt 31 = .ok (.getfield 134, 3) := by decide +kernel
theorem dX9_salt_34 : decode cX9_salt 34 = .ok (.iload_n 1, 1) := by decide +kernel
theorem dX9_salt_35 : decode cX9_salt 35 = .ok (.iaload, 1) := by decide +kernel
theorem dX9_salt_36 : decode cX9_salt 36 = .ok (.ifCond .le 28, 3) := by decide +kernel
theorem dX9_salt_39 : decode cX9_salt 39 = .ok (.aload_n 0, 1) := by decide +kernel
theorem dX9_salt_40 : decode cX9_salt 40 = .ok (.getfield 24, 3) := by decide +kernel
theorem dX9_salt_43 : decode cX9_salt 43 = .ok (.getfield 75, 3) := by decide +kernel
theorem dX9_salt_46 : decode cX9_salt 46 = .ok (.iload_n 2, 1) := by decide +kernel
theorem dX9_salt_47 : decode cX9_salt 47 = .ok (.aload_n 0, 1) := by decide +kernel
theorem dX9_salt_48 : decode cX9_salt 48 = .ok (.getfield 24, 3) := by decide +kernel
theorem dX9_salt_51 : decode cX9_salt 51 = .ok (.getfield 131, 3) := by decide +kernel
theorem dX9_salt_54 : decode cX9_salt 54 = .ok (.iload_n 1, 1) := by decide +kernel
theorem dX9_salt_55 : decode cX9_salt 55 = .ok (.iaload, 1) := by decide +kernel
theorem dX9_salt_56 : decode cX9_salt 56 = .ok (.invokevirtual 158, 3) := by decide +kernel
theorem dX9_salt_59 : decode cX9_salt 59 = .ok (.bipush (-2), 2) := by decide +kernel
theorem dX9_salt_61 : decode cX9_salt 61 = .ok (.if_icmp .ne 5, 3) := by decide +kernel
theorem dX9_salt_64 : decode cX9_salt 64 = .ok (.iconst 0, 1) := by decide +kernel
theorem dX9_salt_65 : decode cX9_salt 65 = .ok (.ireturn, 1) := by decide +kernel
theorem dX9_salt_66 : decode cX9_salt 66 = .ok (.aload_n 0, 1) := by decide +kernel
theorem dX9_salt_67 : decode cX9_salt 67 = .ok (.getfield 24, 3) := by decide +kernel
theorem dX9_salt_70 : decode cX9_salt 70 = .ok (.iload_n 1, 1) := by decide +kernel
theorem dX9_salt_71 : decode cX9_salt 71 = .ok (.iload_n 2, 1) := by decide +kernel
theorem dX9_salt_72 : decode cX9_salt 72 = .ok (.invokevirtual 161, 3) := by decide +kernel
theorem dX9_salt_75 : decode cX9_salt 75 = .ok (.iconst 1, 1) := by decide +kernel
theorem dX9_salt_76 : decode cX9_salt 76 = .ok (.ireturn, 1) := by decide +kernel
theorem dX9_stove_0 : decode cX9_stove 0 = .ok (.iload_n 1, 1) := by decide +kernel
theorem dX9_stove_1 : decode cX9_stove 1 = .ok (.aload_n 0, 1) := by decide +kernel
theorem dX9_stove_2 : decode cX9_stove 2 = .ok (.getfield 24, 3) := by decide +kernel
theorem dX9_stove_5 : decode cX9_stove 5 = .ok (.getfield 75, 3) := by decide +kernel
theorem dX9_stove_8 : decode cX9_stove 8 = .ok (.getfield 76, 3) := by decide +kernel
theorem dX9_stove_11 : decode cX9_stove 11 = .ok (.invokestatic 79, 3) := by decide +kernel
theorem dX9_stove_14 : decode cX9_stove 14 = .ok (.ifCond .eq 13, 3) := by decide +kernel
theorem dX9_stove_17 : decode cX9_stove 17 = .ok (.iload_n 2, 1) := by decide +kernel
theorem dX9_stove_18 : decode cX9_stove 18 = .ok (.iconst 0, 1) := by decide +kernel
theorem dX9_stove_19 : decode cX9_stove 19 = .ok (.bipush 9, 2) := by decide +kernel
theorem dX9_stove_21 : decode cX9_stove 21 = .ok (.invokestatic 142, 3) := by decide +kernel
theorem dX9_stove_24 : decode cX9_stove 24 = .ok (.ifCond .ne 5, 3) := by decide +kernel
theorem dX9_stove_27 : decode cX9_stove 27 = .ok (.iconst 0, 1) := by decide +kernel
theorem dX9_stove_28 : decode cX9_stove 28 = .ok (.ireturn, 1) := by decide +kernel
theorem dX9_stove_29 : decode cX9_stove 29 = .ok (.aload_n 0, 1) := by decide +kernel
theorem dX9_stove_30 : decode cX9_stove 30 = .ok (.getfield 24, 3) := by decide +kernel
theorem dX9_stove_33 : decode cX9_stove 33 = .ok (.getfield 83, 3) := by decide +kernel
theorem dX9_stove_36 : decode cX9_stove 36 = .ok (.iload_n 1, 1) := by decide +kernel
theorem dX9_stove_37 : decode cX9_stove 37 = .ok (.iload_n 2, 1) := by decide +kernel
theorem dX9_stove_38 : decode cX9_stove 38 = .ok (.iastore, 1) := by decide +kernel
theorem dX9_stove_39 : decode cX9_stove 39 = .ok (.iconst 1, 1) := by decide +kernel
theorem dX9_stove_40 : decode cX9_stove 40 = .ok (.ireturn, 1) := by decide +kernel
theorem dX9_pardon_0 : decode cX9_pardon 0 = .ok (.aload_n 0, 1) := by decide +kernel
theorem dX9_pardon_1 : decode cX9_pardon 1 = .ok (.iload_n 1, 1) := by decide +kernel
theorem dX9_pardon_2 : decode cX9_pardon 2 = .ok (.invokevirtual 154, 3) := by decide +kernel
theorem dX9_pardon_5 : decode cX9_pardon 5 = .ok (.ifCond .ne 5, 3) := by decide +kernel
theorem dX9_pardon_8 : decode cX9_pardon 8 = .ok (.iconst 0, 1) := by decide +kernel
theorem dX9_pardon_9 : decode cX9_pardon 9 = .ok (.ireturn, 1) := by decide +kernel
theorem dX9_pardon_10 : decode cX9_pardon 10 = .ok (.aload_n 0, 1) := by decide +kernel
theorem dX9_pardon_11 : decode cX9_pardon 11 = .ok (.getfield 24, 3) := by decide +kernel
theorem dX9_pardon_14 : decode cX9_pardon 14 = .ok (.getfield 131, 3) := by decide +kernel
theorem dX9_pardon_17 : decode cX9_pardon 17 = .ok (.iload_n 1, 1) := by decide +kernel
theorem dX9_pardon_18 : decode cX9_pardon 18 = .ok (.iconst (-1), 1) := by decide +kernel
theorem dX9_pardon_19 : decode cX9_pardon 19 = .ok (.iastore, 1) := by decide +kernel
theorem dX9_pardon_20 : decode cX9_pardon 20 = .ok (.iconst 1, 1) := by decide +kernel
theorem dX9_pardon_21 : decode cX9_pardon 21 = .ok (.ireturn, 1) := by decide +kernel
theorem dX9_hours_0 : decode cX9_hours 0 = .ok (.iload_n 1, 1) := by decide +kernel
theorem dX9_hours_1 : decode cX9_hours 1 = .ok (.iconst 1, 1) := by decide +kernel
theorem dX9_hours_2 : decode cX9_hours 2 = .ok (.sipush 1000, 3) := by decide +kernel
theorem dX9_hours_5 : decode cX9_hours 5 = .ok (.invokestatic 142, 3) := by decide +kernel
theorem dX9_hours_8 : decode cX9_hours 8 = .ok (.ifCond .ne 5, 3) := by decide +kernel
theorem dX9_hours_11 : decode cX9_hours 11 = .ok (.iconst (-1), 1) := by decide +kernel
theorem dX9_hours_12 : decode cX9_hours 12 = .ok (.ireturn, 1) := by decide +kernel
theorem dX9_hours_13 : decode cX9_hours 13 = .ok (.iconst 0, 1) := by decide +kernel
theorem dX9_hours_14 : decode cX9_hours 14 = .ok (.istore_n 2, 1) := by decide +kernel
theorem dX9_hours_15 : decode cX9_hours 15 = .ok (.iload_n 2, 1) := by decide +kernel
theorem dX9_hours_16 : decode cX9_hours 16 = .ok (.iload_n 1, 1) := by decide +kernel
theorem dX9_hours_17 : decode cX9_hours 17 = .ok (.if_icmp .ge 17, 3) := by decide +kernel
theorem dX9_hours_20 : decode cX9_hours 20 = .ok (.aload_n 0, 1) := by decide +kernel
theorem dX9_hours_21 : decode cX9_hours 21 = .ok (.getfield 24, 3) := by decide +kernel
theorem dX9_hours_24 : decode cX9_hours 24 = .ok (.iconst 0, 1) := by decide +kernel
theorem dX9_hours_25 : decode cX9_hours 25 = .ok (.invokevirtual 165, 3) := by decide +kernel
theorem dX9_hours_28 : decode cX9_hours 28 = .ok (.iinc 2 1, 3) := by decide +kernel
theorem dX9_hours_31 : decode cX9_hours 31 = .ok (.goto (-16), 3) := by decide +kernel
theorem dX9_hours_34 : decode cX9_hours 34 = .ok (.aload_n 0, 1) := by decide +kernel
theorem dX9_hours_35 : decode cX9_hours 35 = .ok (.getfield 24, 3) := by decide +kernel
theorem dX9_hours_38 : decode cX9_hours 38 = .ok (.getfield 169, 3) := by decide +kernel
theorem dX9_hours_41 : decode cX9_hours 41 = .ok (.ireturn, 1) := by decide +kernel
theorem dX9_soon_0 : decode cX9_soon 0 = .ok (.iload_n 1, 1) := by decide +kernel
theorem dX9_soon_1 : decode cX9_soon 1 = .ok (.aload_n 0, 1) := by decide +kernel
theorem dX9_soon_2 : decode cX9_soon 2 = .ok (.getfield 24, 3) := by decide +kernel
theorem dX9_soon_5 : decode cX9_soon 5 = .ok (.getfield 75, 3) := by decide +kernel
theorem dX9_soon_8 : decode cX9_soon 8 = .ok (.getfield 97, 3) := by decide +kernel
theorem dX9_soon_11 : decode cX9_soon 11 = .ok (.invokestatic 79, 3) := by decide +kernel
theorem dX9_soon_14 : decode cX9_soon 14 = .ok (.ifCond .eq 10, 3) := by decide +kernel
theorem dX9_soon_17 : decode cX9_soon 17 = .ok (.iload_n 2, 1) := by decide +kernel
theorem dX9_soon_18 : decode cX9_soon 18 = .ok (.invokestatic 172, 3) := by decide +kernel
theorem dX9_soon_21 : decode cX9_soon 21 = .ok (.ifCond .ne 5, 3) := by decide +kernel
theorem dX9_soon_24 : decode cX9_soon 24 = .ok (.iconst (-1), 1) := by decide +kernel
theorem dX9_soon_25 : decode cX9_soon 25 = .ok (.ireturn, 1) := by decide +kernel
theorem dX9_soon_26 : decode cX9_soon 26 = .ok (.aload_n 0, 1) := by decide +kernel
theorem dX9_soon_27 : decode cX9_soon 27 = .ok (.getfield 28, 3) := by decide +kernel
theorem dX9_soon_30 : decode cX9_soon 30 = .ok (.aload_n 0, 1) := by decide +kernel
theorem dX9_soon_31 : decode cX9_soon 31 = .ok (.getfield 24, 3) := by decide +kernel
theorem dX9_soon_34 : decode cX9_soon 34 = .ok (.invokevirtual 175, 3) := by decide +kernel
theorem dX9_soon_37 : decode cX9_soon 37 = .ok (.iconst 0, 1) := by decide +kernel
theorem dX9_soon_38 : decode cX9_soon 38 = .ok (.istore_n 3, 1) := by decide +kernel
theorem dX9_soon_39 : decode cX9_soon 39 = .ok (.iload_n 3, 1) := by decide +kernel
theorem dX9_soon_40 : decode cX9_soon 40 = .ok (.iload_n 2, 1) := by decide +kernel
theorem dX9_soon_41 : decode cX9_soon 41 = .ok (.if_icmp .gt 34, 3) := by decide +kernel
theorem dX9_soon_44 : decode cX9_soon 44 = .ok (.aload_n 0, 1) := by decide +kernel
theorem dX9_soon_45 : decode cX9_soon 45 = .ok (.getfield 28, 3) := by decide +kernel
theorem dX9_soon_48 : decode cX9_soon 48 = .ok (.getfield 100, 3) := by decide +kernel
theorem dX9_soon_51 : decode cX9_soon 51 = .ok (.iload_n 1, 1) := by decide +kernel
theorem dX9_soon_52 : decode cX9_soon 52 = .ok (.aaload, 1) := by decide +kernel
theorem dX9_soon_53 : decode cX9_soon 53 = .ok (.invokevirtual 179, 3) := by decide +kernel
theorem dX9_soon_56 : decode cX9_soon 56 = .ok (.ifCond .eq 5, 3) := by decide +kernel
theorem dX9_soon_59 : decode cX9_soon 59 = .ok (.iload_n 3, 1) := by decide +kernel
theorem dX9_soon_60 : decode cX9_soon 60 = .ok (.ireturn, 1) := by decide +kernel
theorem dX9_soon_61 : decode cX9_soon 61 = .ok (.aload_n 0, 1) := by decide +kernel
theorem dX9_soon_62 : decode cX9_soon 62 = .ok (.getfield 28, 3) := by decide +kernel
theorem dX9_soon_65 : decode cX9_soon 65 = .ok (.iconst 0, 1) := by decide +kernel
theorem dX9_soon_66 : decode cX9_soon 66 = .ok (.invokevirtual 165, 3) := by decide +kernel
theorem dX9_soon_69 : decode cX9_soon 69 = .ok (.iinc 3 1, 3) := by decide +kernel
theorem dX9_soon_72 : decode cX9_soon 72 = .ok (.goto (-33), 3) := by decide +kernel
theorem dX9_soon_75 : decode cX9_soon 75 = .ok (.iconst (-1), 1) := by decide +kernel
theorem dX9_soon_76 : decode cX9_soon 76 = .ok (.ireturn, 1) := by decide +kernel
theorem dX9_needs_0 : decode cX9_needs 0 = .ok (.iload_n 1, 1) := by decide +kernel
theorem dX9_needs_1 : decode cX9_needs 1 = .ok (.aload_n 0, 1) := by decide +kernel
theorem dX9_needs_2 : decode cX9_needs 2 = .ok (.getfield 24, 3) := by decide +kernel
theorem dX9_needs_5 : decode cX9_needs 5 = .ok (.getfield 75, 3) := by decide +kernel
theorem dX9_needs_8 : decode cX9_needs 8 = .ok (.getfield 97, 3) := by decide +kernel
theorem dX9_needs_11 : decode cX9_needs 11 = .ok (.invokestatic 79, 3) := by decide +kernel
theorem dX9_needs_14 : decode cX9_needs 14 = .ok (.ifCond .eq 10, 3) := by decide +kernel
theorem dX9_needs_17 : decode cX9_needs 17 = .ok (.iload_n 2, 1) := by decide +kernel
theorem dX9_needs_18 : decode cX9_needs 18 = .ok (.invokestatic 172, 3) := by decide +kernel
theorem dX9_needs_21 : decode cX9_needs 21 = .ok (.ifCond .ne 5, 3) := by decide +kernel
theorem dX9_needs_24 : decode cX9_needs 24 = .ok (.iconst (-1), 1) := by decide +kernel
theorem dX9_needs_25 : decode cX9_needs 25 = .ok (.ireturn, 1) := by decide +kernel
theorem dX9_needs_26 : decode cX9_needs 26 = .ok (.aload_n 0, 1) := by decide +kernel
theorem dX9_needs_27 : decode cX9_needs 27 = .ok (.iload_n 1, 1) := by decide +kernel
theorem dX9_needs_28 : decode cX9_needs 28 = .ok (.iload_n 2, 1) := by decide +kernel
theorem dX9_needs_29 : decode cX9_needs 29 = .ok (.invokevirtual 183, 3) := by decide +kernel
theorem dX9_needs_32 : decode cX9_needs 32 = .ok (.bipush 99, 2) := by decide +kernel
theorem dX9_needs_34 : decode cX9_needs 34 = .ok (.aload_n 0, 1) := by decide +kernel
theorem dX9_needs_35 : decode cX9_needs 35 = .ok (.getfield 24, 3) := by decide +kernel
theorem dX9_needs_38 : decode cX9_needs 38 = .ok (.getfield 100, 3) := by decide +kernel
theorem dX9_needs_41 : decode cX9_needs 41 = .ok (.iload_n 1, 1) := by decide +kernel
theorem dX9_needs_42 : decode cX9_needs 42 = .ok (.aaload, 1) := by decide +kernel
theorem dX9_needs_43 : decode cX9_needs 43 = .ok (.invokevirtual 186, 3) := by decide +kernel
theorem dX9_needs_46 : decode cX9_needs 46 = .ok (.isub, 1) := by decide +kernel
theorem dX9_needs_47 : decode cX9_needs 47 = .ok (.istore_n 3, 1) := by decide +kernel
theorem dX9_needs_48 : decode cX9_needs 48 = .ok (.iconst 0, 1) := by decide +kernel
theorem dX9_needs_49 : decode cX9_needs 49 = .ok (.istore 4, 2) := by decide +kernel
theorem dX9_needs_51 : decode cX9_needs 51 = .ok (.iload 4, 2) := by decide +kernel
theorem dX9_needs_53 : decode cX9_needs 53 = .ok (.iload_n 3, 1) := by decide +kernel
theorem dX9_needs_54 : decode cX9_needs 54 = .ok (.if_icmp .gt 23, 3) := by decide +kernel
theorem dX9_needs_57 : decode cX9_needs 57 = .ok (.aload_n 0, 1) := by decide +kernel
theorem dX9_needs_58 : decode cX9_needs 58 = .ok (.iload 4, 2) := by decide +kernel
theorem dX9_needs_60 : decode cX9_needs 60 = .ok (.iload_n 1, 1) := by decide +kernel
theorem dX9_needs_61 : decode cX9_needs 61 = .ok (.iload_n 2, 1) := by decide +kernel
theorem dX9_needs_62 : decode cX9_needs 62 = .ok (.invokevirtual 189, 3) := by decide +kernel
theorem dX9_needs_65 : decode cX9_needs 65 = .ok (.ifCond .eq 6, 3) := by decide +kernel
theorem dX9_needs_68 : decode cX9_needs 68 = .ok (.iload 4, 2) := by decide +kernel
theorem dX9_needs_70 : decode cX9_needs 70 = .ok (.ireturn, 1) := by decide +kernel
theorem dX9_needs_71 : decode cX9_needs 71 = .ok (.iinc 4 1, 3) := by decide +kernel
theorem dX9_needs_74 : decode cX9_needs 74 = .ok (.goto (-23), 3) := by decide +kernel
theorem dX9_needs_77 : decode cX9_needs 77 = .ok (.iconst (-1), 1) := by decide +kernel
theorem dX9_needs_78 : decode cX9_needs 78 = .ok (.ireturn, 1) := by decide +kernel
theorem dX9_first_0 : decode cX9_first 0 = .ok (.iload_n 1, 1) := by decide +kernel
theorem dX9_first_1 : decode cX9_first 1 = .ok (.invokestatic 172, 3) := by decide +kernel
theorem dX9_first_4 : decode cX9_first 4 = .ok (.ifCond .eq 20, 3) := by decide +kernel
theorem dX9_first_7 : decode cX9_first 7 = .ok (.iload_n 2, 1) := by decide +kernel
theorem dX9_first_8 : decode cX9_first 8 = .ok (.aload_n 0, 1) := by decide +kernel
theorem dX9_first_9 : decode cX9_first 9 = .ok (.getfield 24, 3) := by decide +kernel
theorem dX9_first_12 : decode cX9_first 12 = .ok (.getfield 75, 3) := by decide +kernel
theorem dX9_first_15 : decode cX9_first 15 = .ok (.getfield 97, 3) := by decide +kernel
theorem dX9_first_18 : decode cX9_first 18 = .ok (.invokestatic 79, 3) := by decide +kernel
theorem dX9_first_21 : decode cX9_first 21 = .ok (.ifCond .ne 5, 3) := by decide +kernel
theorem dX9_first_24 : decode cX9_first 24 = .ok (.iconst (-1), 1) := by decide +kernel
theorem dX9_first_25 : decode cX9_first 25 = .ok (.ireturn, 1) := by decide +kernel
theorem dX9_first_26 : decode cX9_first 26 = .ok (.aload_n 0, 1) := by decide +kernel
theorem dX9_first_27 : decode cX9_first 27 = .ok (.iload_n 1, 1) := by decide +kernel
theorem dX9_first_28 : decode cX9_first 28 = .ok (.invokevirtual 192, 3) := by decide +kernel
theorem dX9_first_31 : decode cX9_first 31 = .ok (.aload_n 0, 1) := by decide +kernel
theorem dX9_first_32 : decode cX9_first 32 = .ok (.getfield 39, 3) := by decide +kernel
theorem dX9_first_35 : decode cX9_first 35 = .ok (.iload_n 2, 1) := by decide +kernel
theorem dX9_first_36 : decode cX9_first 36 = .ok (.iaload, 1) := by decide +kernel
theorem dX9_first_37 : decode cX9_first 37 = .ok (.ireturn, 1) := by decide +kernel
theorem dX9_enough_0 : decode cX9_enough 0 = .ok (.iload_n 1, 1) := by decide +kernel
theorem dX9_enough_1 : decode cX9_enough 1 = .ok (.iconst 0, 1) := by decide +kernel
theorem dX9_enough_2 : decode cX9_enough 2 = .ok (.bipush 99, 2) := by decide +kernel
theorem dX9_enough_4 : decode cX9_enough 4 = .ok (.invokestatic 142, 3) := by decide +kernel
theorem dX9_enough_7 : decode cX9_enough 7 = .ok (.ifCond .eq 10, 3) := by decide +kernel
theorem dX9_enough_10 : decode cX9_enough 10 = .ok (.iload_n 2, 1) := by decide +kernel
theorem dX9_enough_11 : decode cX9_enough 11 = .ok (.invokestatic 172, 3) := by decide +kernel
theorem dX9_enough_14 : decode cX9_enough 14 = .ok (.ifCond .ne 5, 3) := by decide +kernel
theorem dX9_enough_17 : decode cX9_enough 17 = .ok (.iconst (-1), 1) := by decide +kernel
theorem dX9_enough_18 : decode cX9_enough 18 = .ok (.ireturn, 1) := by decide +kernel
theorem dX9_enough_19 : decode cX9_enough 19 = .ok (.aload_n 0, 1) := by decide +kernel
theorem dX9_enough_20 : decode cX9_enough 20 = .ok (.iload_n 2, 1) := by decide +kernel
theorem dX9_enough_21 : decode cX9_enough 21 = .ok (.invokevirtual 192, 3) := by decide +kernel
theorem dX9_enough_24 : decode cX9_enough 24 = .ok (.aload_n 0, 1) := by decide +kernel
theorem dX9_enough_25 : decode cX9_enough 25 = .ok (.getfield 28, 3) := by decide +kernel
theorem dX9_enough_28 : decode cX9_enough 28 = .ok (.aload_n 0, 1) := by decide +kernel
theorem dX9_enough_29 : decode cX9_enough 29 = .ok (.getfield 24, 3) := by decide +kernel
theorem dX9_enough_32 : decode cX9_enough 32 = .ok (.invokevirtual 175, 3) := by decide +kernel
theorem dX9_enough_35 : decode cX9_enough 35 = .ok (.iconst 0, 1) := by decide +kernel
theorem dX9_enough_36 : decode cX9_enough 36 = .ok (.istore_n 3, 1) := by decide +kernel
theorem dX9_enough_37 : decode cX9_enough 37 = .ok (.iload_n 3, 1) := by decide +kernel
theorem dX9_enough_38 : decode cX9_enough 38 = .ok (.iload_n 2, 1) := by decide +kernel
theorem dX9_enough_39 : decode cX9_enough 39 = .ok (.if_icmp .ge 62, 3) := by decide +kernel
theorem dX9_enough_42 : decode cX9_enough 42 = .ok (.iload_n 3, 1) := by decide +kernel
theorem dX9_enough_43 : decode cX9_enough 43 = .ok (.aload_n 0, 1) := by decide +kernel
theorem dX9_enough_44 : decode cX9_enough 44 = .ok (.getfield 24, 3) := by decide +kernel
theorem dX9_enough_47 : decode cX9_enough 47 = .ok (.getfield 75, 3) := by decide +kernel
theorem dX9_enough_50 : decode cX9_enough 50 = .ok (.getfield 97, 3) := by decide +kernel
theorem dX9_enough_53 : decode cX9_enough 53 = .ok (.if_icmp .ge 22, 3) := by decide +kernel
theorem dX9_enough_56 : decode cX9_enough 56 = .ok (.aload_n 0, 1) := by decide +kernel
theorem dX9_enough_57 : decode cX9_enough 57 = .ok (.getfield 28, 3) := by decide +kernel
theorem dX9_enough_60 : decode cX9_enough 60 = .ok (.getfield 100, 3) := by decide +kernel
theorem dX9_enough_63 : decode cX9_enough 63 = .ok (.aload_n 0, 1) := by decide +kernel
theorem dX9_enough_64 : decode cX9_enough 64 = .ok (.getfield 39, 3) := by decide +kernel
theorem dX9_enough_67 : decode cX9_enough 67 = .ok (.iload_n 3, 1) := by decide +kernel
theorem dX9_enough_68 : decode cX9_enough 68 = .ok (.iaload, 1) := by decide +kernel
theorem dX9_enough_69 : decode cX9_enough 69 = .ok (.aaload, 1) := by decide +kernel
theorem dX9_enough_70 : decode cX9_enough 70 = .ok (.iload_n 1, 1) := by decide +kernel
theorem dX9_enough_71 : decode cX9_enough 71 = .ok (.invokevirtual 151, 3) := by decide +kernel
theorem dX9_enough_74 : decode cX9_enough 74 = .ok (.pop, 1) := by decide +kernel
theorem dX9_enough_75 : decode cX9_enough 75 = .ok (.aload_n 0, 1) := by decide +kernel
theorem dX9_enough_76 : decode cX9_enough 76 = .ok (.getfield 28, 3) := by decide +kernel
theorem dX9_enough_79 : decode cX9_enough 79 = .ok (.iconst 0, 1) := by decide +kernel
theorem dX9_enough_80 : decode cX9_enough 80 = .ok (.invokevirtual 165, 3) := by decide +kernel
theorem dX9_enough_83 : decode cX9_enough 83 = .ok (.aload_n 0, 1) := by decide +kernel
theorem dX9_enough_84 : decode cX9_enough 84 = .ok (.getfield 28, 3) := by decide +kernel
theorem dX9_enough_87 : decode cX9_enough 87 = .ok (.invokevirtual 195, 3) := by decide +kernel
theorem dX9_enough_90 : decode cX9_enough 90 = .ok (.ifCond .eq 5, 3) := by decide +kernel
theorem dX9_enough_93 : decode cX9_enough 93 = .ok (.iconst 0, 1) := by decide +kernel
theorem dX9_enough_94 : decode cX9_enough 94 = .ok (.ireturn, 1) := by decide +kernel
theorem dX9_enough_95 : decode cX9_enough 95 = .ok (.iinc 3 1, 3) := by decide +kernel
theorem dX9_enough_98 : decode cX9_enough 98 = .ok (.goto (-61), 3) := by decide +kernel
theorem dX9_enough_101 : decode cX9_enough 101 = .ok (.iconst 1, 1) := by decide +kernel
theorem dX9_enough_102 : decode cX9_enough 102 = .ok (.ireturn, 1) := by decide +kernel
theorem dX9_plan_0 : decode cX9_plan 0 = .ok (.aload_n 0, 1) := by decide +kernel
theorem dX9_plan_1 : decode cX9_plan 1 = .ok (.iload_n 1, 1) := by decide +kernel
theorem dX9_plan_2 : decode cX9_plan 2 = .ok (.invokevirtual 154, 3) := by decide +kernel
theorem dX9_plan_5 : decode cX9_plan 5 = .ok (.ifCond .eq 7, 3) := by decide +kernel
theorem dX9_plan_8 : decode cX9_plan 8 = .ok (.iload_n 2, 1) := by decide +kernel
theorem dX9_plan_9 : decode cX9_plan 9 = .ok (.ifCond .ge 5, 3) := by decide +kernel
theorem dX9_plan_12 : decode cX9_plan 12 = .ok (.iconst (-1), 1) := by decide +kernel
theorem dX9_plan_13 : decode cX9_plan 13 = .ok (.ireturn, 1) := by decide +kernel
theorem dX9_plan_14 : decode cX9_plan 14 = .ok (.aload_n 0, 1) := by decide +kernel
theorem dX9_plan_15 : decode cX9_plan 15 = .ok (.invokevirtual 198, 3) := by decide +kernel
theorem dX9_plan_18 : decode cX9_plan 18 = .ok (.aload_n 0, 1) := by decide +kernel
theorem dX9_plan_19 : decode cX9_plan 19 = .ok (.getfield 24, 3) := by decide +kernel
theorem dX9_plan_22 : decode cX9_plan 22 = .ok (.getfield 131, 3) := by decide +kernel
theorem dX9_plan_25 : decode cX9_plan 25 = .ok (.iload_n 1, 1) := by decide +kernel
theorem dX9_plan_26 : decode cX9_plan 26 = .ok (.iaload, 1) := by decide +kernel
theorem dX9_plan_27 : decode cX9_plan 27 = .ok (.istore_n 3, 1) := by decide +kernel
theorem dX9_plan_28 : decode cX9_plan 28 = .ok (.aload_n 0, 1) := by decide +kernel
theorem dX9_plan_29 : decode cX9_plan 29 = .ok (.getfield 48, 3) := by decide +kernel
theorem dX9_plan_32 : decode cX9_plan 32 = .ok (.iload_n 3, 1) := by decide +kernel
theorem dX9_plan_33 : decode cX9_plan 33 = .ok (.iaload, 1) := by decide +kernel
theorem dX9_plan_34 : decode cX9_plan 34 = .ok (.istore 4, 2) := by decide +kernel
theorem dX9_plan_36 : decode cX9_plan 36 = .ok (.iload 4, 2) := by decide +kernel
theorem dX9_plan_38 : decode cX9_plan 38 = .ok (.iconst (-1), 1) := by decide +kernel
theorem dX9_plan_39 : decode cX9_plan 39 = .ok (.if_icmp .ne 5, 3) := by decide +kernel
theorem dX9_plan_42 : decode cX9_plan 42 = .ok (.iconst (-1), 1) := by decide +kernel
theorem dX9_plan_43 : decode cX9_plan 43 = .ok (.ireturn, 1) := by decide +kernel
theorem dX9_plan_44 : decode cX9_plan 44 = .ok (.iload_n 2, 1) := by decide +kernel
theorem dX9_plan_45 : decode cX9_plan 45 = .ok (.ifCond .ne 9, 3) := by decide +kernel
theorem dX9_plan_48 : decode cX9_plan 48 = .ok (.iload 4, 2) := by decide +kernel
theorem dX9_plan_50 : decode cX9_plan 50 = .ok (.bipush 100, 2) := by decide +kernel
theorem dX9_plan_52 : decode cX9_plan 52 = .ok (.idiv, 1) := by decide +kernel
theorem dX9_plan_53 : decode cX9_plan 53 = .ok (.ireturn, 1) := by decide +kernel
theorem dX9_plan_54 : decode cX9_plan 54 = .ok (.iload 4, 2) := by decide +kernel
theorem dX9_plan_56 : decode cX9_plan 56 = .ok (.bipush 100, 2) := by decide +kernel
theorem dX9_plan_58 : decode cX9_plan 58 = .ok (.irem, 1) := by decide +kernel
theorem dX9_plan_59 : decode cX9_plan 59 = .ok (.istore 5, 2) := by decide +kernel
theorem dX9_plan_61 : decode cX9_plan 61 = .ok (.iload_n 2, 1) := by decide +kernel
theorem dX9_plan_62 : decode cX9_plan 62 = .ok (.iconst 1, 1) := by decide +kernel
theorem dX9_plan_63 : decode cX9_plan 63 = .ok (.if_icmp .ne 6, 3) := by decide +kernel
theorem dX9_plan_66 : decode cX9_plan 66 = .ok (.iload 5, 2) := by decide +kernel
theorem dX9_plan_68 : decode cX9_plan 68 = .ok (.ireturn, 1) := by decide +kernel
theorem dX9_plan_69 : decode cX9_plan 69 = .ok (.iload_n 2, 1) := by decide +kernel
theorem dX9_plan_70 : decode cX9_plan 70 = .ok (.iconst 2, 1) := by decide +kernel
theorem dX9_plan_71 : decode cX9_plan 71 = .ok (.isub, 1) := by decide +kernel
theorem dX9_plan_72 : decode cX9_plan 72 = .ok (.iload 5, 2) := by decide +kernel
theorem dX9_plan_74 : decode cX9_plan 74 = .ok (.if_icmp .ge 14, 3) := by decide +kernel
theorem dX9_plan_77 : decode cX9_plan 77 = .ok (.aload_n 0, 1) := by decide +kernel
theorem dX9_plan_78 : decode cX9_plan 78 = .ok (.iload_n 3, 1) := by decide +kernel
theorem dX9_plan_79 : decode cX9_plan 79 = .ok (.iload_n 2, 1) := by decide +kernel
theorem dX9_plan_80 : decode cX9_plan 80 = .ok (.iconst 2, 1) := by decide +kernel
theorem dX9_plan_81 : decode cX9_plan 81 = .ok (.isub, 1) := by decide +kernel
theorem dX9_plan_82 : decode cX9_plan 82 = .ok (.invokevirtual 201, 3) := by decide +kernel
theorem dX9_plan_85 : decode cX9_plan 85 = .ok (.goto 4, 3) := by decide +kernel
theorem dX9_plan_88 : decode cX9_plan 88 = .ok (.iconst (-1), 1) := by decide +kernel
theorem dX9_plan_89 : decode cX9_plan 89 = .ok (.ireturn, 1) := by decide +kernel
theorem dX9_escape_0 : decode cX9_escape 0 = .ok (.aload_n 0, 1) := by decide +kernel
theorem dX9_escape_1 : decode cX9_escape 1 = .ok (.iload_n 1, 1) := by decide +kernel
theorem dX9_escape_2 : decode cX9_escape 2 = .ok (.invokevirtual 154, 3) := by decide +kernel
theorem dX9_escape_5 : decode cX9_escape 5 = .ok (.ifCond .eq 10, 3) := by decide +kernel
theorem dX9_escape_8 : decode cX9_escape 8 = .ok (.iload_n 2, 1) := by decide +kernel
theorem dX9_escape_9 : decode cX9_escape 9 = .ok (.invokestatic 172, 3) := by decide +kernel
theorem dX9_escape_12 : decode cX9_escape 12 = .ok (.ifCond .ne 5, 3) := by decide +kernel
theorem dX9_escape_15 : decode cX9_escape 15 = .ok (.iconst (-1), 1) := by decide +kernel
theorem dX9_escape_16 : decode cX9_escape 16 = .ok (.ireturn, 1) := by decide +kernel
theorem dX9_escape_17 : decode cX9_escape 17 = .ok (.aload_n 0, 1) := by decide +kernel
theorem dX9_escape_18 : decode cX9_escape 18 = .ok (.getfield 28, 3) := by decide +kernel
theorem dX9_escape_21 : decode cX9_escape 21 = .ok (.aload_n 0, 1) := by decide +kernel
theorem dX9_escape_22 : decode cX9_escape 22 = .ok (.getfield 24, 3) := by decide +kernel
theorem dX9_escape_25 : decode cX9_escape 25 = .ok (.invokevirtual 175, 3) := by decide +kernel
theorem dX9_escape_28 : decode cX9_escape 28 = .ok (.iconst 1, 1) := by decide +kernel
theorem dX9_escape_29 : decode cX9_escape 29 = .ok (.istore_n 3, 1) := by decide +kernel
theorem dX9_escape_30 : decode cX9_escape 30 = .ok (.iload_n 3, 1) := by decide +kernel
theorem dX9_escape_31 : decode cX9_escape 31 = .ok (.iload_n 2, 1) := by decide +kernel
theorem dX9_escape_32 : decode cX9_escape 32 = .ok (.if_icmp .gt 32, 3) := by decide +kernel
theorem dX9_escape_35 : decode cX9_escape 35 = .ok (.aload_n 0, 1) := by decide +kernel
theorem dX9_escape_36 : decode cX9_escape 36 = .ok (.getfield 28, 3) := by decide +kernel
theorem dX9_escape_39 : decode cX9_escape 39 = .ok (.iconst 0, 1) := by decide +kernel
theorem dX9_escape_40 : decode cX9_escape 40 = .ok (.invokevirtual 165, 3) := by decide +kernel
theorem dX9_escape_43 : decode cX9_escape 43 = .ok (.aload_n 0, 1) := by decide +kernel
theorem dX9_escape_44 : decode cX9_escape 44 = .ok (.getfield 28, 3) := by decide +kernel
theorem dX9_escape_47 : decode cX9_escape 47 = .ok (.getfield 131, 3) := by decide +kernel
theorem dX9_escape_50 : decode cX9_escape 50 = .ok (.iload_n 1, 1) := by decide +kernel
theorem dX9_escape_51 : decode cX9_escape 51 = .ok (.iaload, 1) := by decide +kernel
theorem dX9_escape_52 : decode cX9_escape 52 = .ok (.iconst (-1), 1) := by decide +kernel
theorem dX9_escape_53 : decode cX9_escape 53 = .ok (.if_icmp .ne 5, 3) := by decide +kernel
theorem dX9_escape_56 : decode cX9_escape 56 = .ok (.iload_n 3, 1) := by decide +kernel
theorem dX9_escape_57 : decode cX9_escape 57 = .ok (.ireturn, 1) := by decide +kernel
theorem dX9_escape_58 : decode cX9_escape 58 = .ok (.iinc 3 1, 3) := by decide +kernel
theorem dX9_escape_61 : decode cX9_escape 61 = .ok (.goto (-31), 3) := by decide +kernel
theorem dX9_escape_64 : decode cX9_escape 64 = .ok (.iconst (-1), 1) := by decide +kernel
theorem dX9_escape_65 : decode cX9_escape 65 = .ok (.ireturn, 1) := by decide +kernel
theorem dX9_salted_0 : decode cX9_salted 0 = .ok (.iload_n 1, 1) := by decide +kernel
theorem dX9_salted_1 : decode cX9_salted 1 = .ok (.iconst 1, 1) := by decide +kernel
theorem dX9_salted_2 : decode cX9_salted 2 = .ok (.bipush 99, 2) := by decide +kernel
theorem dX9_salted_4 : decode cX9_salted 4 = .ok (.invokestatic 142, 3) := by decide +kernel
theorem dX9_salted_7 : decode cX9_salted 7 = .ok (.ifCond .ne 5, 3) := by decide +kernel
theorem dX9_salted_10 : decode cX9_salted 10 = .ok (.iconst (-1), 1) := by decide +kernel
theorem dX9_salted_11 : decode cX9_salted 11 = .ok (.ireturn, 1) := by decide +kernel
theorem dX9_salted_12 : decode cX9_salted 12 = .ok (.iconst 0, 1) := by decide +kernel
theorem dX9_salted_13 : decode cX9_salted 13 = .ok (.istore_n 2, 1) := by decide +kernel
theorem dX9_salted_14 : decode cX9_salted 14 = .ok (.iconst 0, 1) := by decide +kernel
theorem dX9_salted_15 : decode cX9_salted 15 = .ok (.istore_n 3, 1) := by decide +kernel
theorem dX9_salted_16 : decode cX9_salted 16 = .ok (.iload_n 3, 1) := by decide +kernel
theorem dX9_salted_17 : decode cX9_salted 17 = .ok (.aload_n 0, 1) := by decide +kernel
theorem dX9_salted_18 : decode cX9_salted 18 = .ok (.getfield 24, 3) := by decide +kernel
theorem dX9_salted_21 : decode cX9_salted 21 = .ok (.getfield 75, 3) := by decide +kernel
theorem dX9_salted_24 : decode cX9_salted 24 = .ok (.getfield 97, 3) := by decide +kernel
theorem dX9_salted_27 : decode cX9_salted 27 = .ok (.if_icmp .ge 41, 3) := by decide +kernel
theorem dX9_salted_30 : decode cX9_salted 30 = .ok (.aload_n 0, 1) := by decide +kernel
theorem dX9_salted_31 : decode cX9_salted 31 = .ok (.getfield 24, 3) := by decide +kernel
theorem dX9_salted_34 : decode cX9_salted 34 = .ok (.getfield 100, 3) := by decide +kernel
theorem dX9_salted_37 : decode cX9_salted 37 = .ok (.iload_n 3, 1) := by decide +kernel
theorem dX9_salted_38 : decode cX9_salted 38 = .ok (.aaload, 1) := by decide +kernel
theorem dX9_salted_39 : decode cX9_salted 39 = .ok (.astore 4, 2) := by decide +kernel
theorem dX9_salted_41 : decode cX9_salted 41 = .ok (.aload 4, 2) := by decide +kernel
theorem dX9_salted_43 : decode cX9_salted 43 = .ok (.getfield 204, 3) := by decide +kernel
theorem dX9_salted_46 : decode cX9_salted 46 = .ok (.aload 4, 2) := by decide +kernel
theorem dX9_salted_48 : decode cX9_salted 48 = .ok (.getfield 104, 3) := by decide +kernel
theorem dX9_salted_51 : decode cX9_salted 51 = .ok (.isub, 1) := by decide +kernel
theorem dX9_salted_52 : decode cX9_salted 52 = .ok (.iload_n 1, 1) := by decide +kernel
theorem dX9_salted_53 : decode cX9_salted 53 = .ok (.if_icmp .lt 9, 3) := by decide +kernel
theorem dX9_salted_56 : decode cX9_salted 56 = .ok (.iload_n 2, 1) := by decide +kernel
theorem dX9_salted_57 : decode cX9_salted 57 = .ok (.iconst 1, 1) := by decide +kernel
theorem dX9_salted_58 : decode cX9_salted 58 = .ok (.iload_n 3, 1) := by decide +kernel
theorem dX9_salted_59 : decode cX9_salted 59 = .ok (.ishl, 1) := by decide +kernel
theorem dX9_salted_60 : decode cX9_salted 60 = .ok (.ior, 1) := by decide +kernel
theorem dX9_salted_61 : decode cX9_salted 61 = .ok (.istore_n 2, 1) := by decide +kernel
theorem dX9_salted_62 : decode cX9_salted 62 = .ok (.iinc 3 1, 3) := by decide +kernel
theorem dX9_salted_65 : decode cX9_salted 65 = .ok (.goto (-49), 3) := by decide +kernel
theorem dX9_salted_68 : decode cX9_salted 68 = .ok (.iload_n 2, 1) := by decide +kernel
theorem dX9_salted_69 : decode cX9_salted 69 = .ok (.ireturn, 1) := by decide +kernel
theorem dX9_beside_0 : decode cX9_beside 0 = .ok (.iload_n 1, 1) := by decide +kernel
theorem dX9_beside_1 : decode cX9_beside 1 = .ok (.aload_n 0, 1) := by decide +kernel
theorem dX9_beside_2 : decode cX9_beside 2 = .ok (.getfield 24, 3) := by decide +kernel
theorem dX9_beside_5 : decode cX9_beside 5 = .ok (.getfield 75, 3) := by decide +kernel
theorem dX9_beside_8 : decode cX9_beside 8 = .ok (.getfield 97, 3) := by decide +kernel
theorem dX9_beside_11 : decode cX9_beside 11 = .ok (.invokestatic 79, 3) := by decide +kernel
theorem dX9_beside_14 : decode cX9_beside 14 = .ok (.ifCond .eq 18, 3) := by decide +kernel
theorem dX9_beside_17 : decode cX9_beside 17 = .ok (.aload_n 0, 1) := by decide +kernel
theorem dX9_beside_18 : decode cX9_beside 18 = .ok (.getfield 24, 3) := by decide +kernel
theorem dX9_beside_21 : decode cX9_beside 21 = .ok (.getfield 100, 3) := by decide +kernel
theorem dX9_beside_24 : decode cX9_beside 24 = .ok (.iload_n 1, 1) := by decide +kernel
theorem dX9_beside_25 : decode cX9_beside 25 = .ok (.aaload, 1) := by decide +kernel
theorem dX9_beside_26 : decode cX9_beside 26 = .ok (.getfield 207, 3) := by decide +kernel
theorem dX9_beside_29 : decode cX9_beside 29 = .ok (.goto 4, 3) := by decide +kernel
theorem dX9_beside_32 : decode cX9_beside 32 = .ok (.iconst (-1), 1) := by decide +kernel
theorem dX9_beside_33 : decode cX9_beside 33 = .ok (.ireturn, 1) := by decide +kernel
theorem dX9_thaw_0 : decode cX9_thaw 0 = .ok (.iload_n 1, 1) := by decide +kernel
theorem dX9_thaw_1 : decode cX9_thaw 1 = .ok (.invokestatic 172, 3) := by decide +kernel
theorem dX9_thaw_4 : decode cX9_thaw 4 = .ok (.ifCond .ne 5, 3) := by decide +kernel
theorem dX9_thaw_7 : decode cX9_thaw 7 = .ok (.iconst (-1), 1) := by decide +kernel
theorem dX9_thaw_8 : decode cX9_thaw 8 = .ok (.ireturn, 1) := by decide +kernel
theorem dX9_thaw_9 : decode cX9_thaw 9 = .ok (.iconst 0, 1) := by decide +kernel
theorem dX9_thaw_10 : decode cX9_thaw 10 = .ok (.istore_n 2, 1) := by decide +kernel
theorem dX9_thaw_11 : decode cX9_thaw 11 = .ok (.iload_n 2, 1) := by decide +kernel
theorem dX9_thaw_12 : decode cX9_thaw 12 = .ok (.iload_n 1, 1) := by decide +kernel
theorem dX9_thaw_13 : decode cX9_thaw 13 = .ok (.if_icmp .gt 23, 3) := by decide +kernel
theorem dX9_thaw_16 : decode cX9_thaw 16 = .ok (.aload_n 0, 1) := by decide +kernel
theorem dX9_thaw_17 : decode cX9_thaw 17 = .ok (.getfield 24, 3) := by decide +kernel
theorem dX9_thaw_20 : decode cX9_thaw 20 = .ok (.iload_n 2, 1) := by decide +kernel
theorem dX9_thaw_21 : decode cX9_thaw 21 = .ok (.iconst 0, 1) := by decide +kernel
theorem dX9_thaw_22 : decode cX9_thaw 22 = .ok (.invokevirtual 148, 3) := by decide +kernel
theorem dX9_thaw_25 : decode cX9_thaw 25 = .ok (.ifCond .lt 5, 3) := by decide +kernel
theorem dX9_thaw_28 : decode cX9_thaw 28 = .ok (.iload_n 2, 1) := by decide +kernel
theorem dX9_thaw_29 : decode cX9_thaw 29 = .ok (.ireturn, 1) := by decide +kernel
theorem dX9_thaw_30 : decode cX9_thaw 30 = .ok (.iinc 2 1, 3) := by decide +kernel
theorem dX9_thaw_33 : decode cX9_thaw 33 = .ok (.goto (-22), 3) := by decide +kernel
theorem dX9_thaw_36 : decode cX9_thaw 36 = .ok (.iconst (-1), 1) := by decide +kernel
theorem dX9_thaw_37 : decode cX9_thaw 37 = .ok (.ireturn, 1) := by decide +kernel
theorem dX9_amnesty_0 : decode cX9_amnesty 0 = .ok (.aload_n 0, 1) := by decide +kernel
theorem dX9_amnesty_1 : decode cX9_amnesty 1 = .ok (.getfield 24, 3) := by decide +kernel
theorem dX9_amnesty_4 : decode cX9_amnesty 4 = .ok (.invokevirtual 210, 3) := by decide +kernel
theorem dX9_amnesty_7 : decode cX9_amnesty 7 = .ok (.istore_n 3, 1) := by decide +kernel
theorem dX9_amnesty_8 : decode cX9_amnesty 8 = .ok (.iload_n 3, 1) := by decide +kernel
theorem dX9_amnesty_9 : decode cX9_amnesty 9 = .ok (.ifCond .eq 21, 3) := by decide +kernel
theorem dX9_amnesty_12 : decode cX9_amnesty 12 = .ok (.iload_n 1, 1) := by decide +kernel
theorem dX9_amnesty_13 : decode cX9_amnesty 13 = .ok (.iconst 0, 1) := by decide +kernel
theorem dX9_amnesty_14 : decode cX9_amnesty 14 = .ok (.iload_n 3, 1) := by decide +kernel
theorem dX9_amnesty_15 : decode cX9_amnesty 15 = .ok (.invokestatic 142, 3) := by decide +kernel
theorem dX9_amnesty_18 : decode cX9_amnesty 18 = .ok (.ifCond .eq 12, 3) := by decide +kernel
theorem dX9_amnesty_21 : decode cX9_amnesty 21 = .ok (.iload_n 2, 1) := by decide +kernel
theorem dX9_amnesty_22 : decode cX9_amnesty 22 = .ok (.iconst 0, 1) := by decide +kernel
theorem dX9_amnesty_23 : decode cX9_amnesty 23 = .ok (.iconst 1, 1) := by decide +kernel
theorem dX9_amnesty_24 : decode cX9_amnesty 24 = .ok (.invokestatic 142, 3) := by decide +kernel
theorem dX9_amnesty_27 : decode cX9_amnesty 27 = .ok (.ifCond .ne 5, 3) := by decide +kernel
theorem dX9_amnesty_30 : decode cX9_amnesty 30 = .ok (.iconst (-1), 1) := by decide +kernel
theorem dX9_amnesty_31 : decode cX9_amnesty 31 = .ok (.ireturn, 1) := by decide +kernel
theorem dX9_amnesty_32 : decode cX9_amnesty 32 = .ok (.iload_n 3, 1) := by decide +kernel
theorem dX9_amnesty_33 : decode cX9_amnesty 33 = .ok (.istore 4, 2) := by decide +kernel
theorem dX9_amnesty_35 : decode cX9_amnesty 35 = .ok (.iload 4, 2) := by decide +kernel
theorem dX9_amnesty_37 : decode cX9_amnesty 37 = .ok (.iconst 1, 1) := by decide +kernel
theorem dX9_amnesty_38 : decode cX9_amnesty 38 = .ok (.if_icmp .le 23, 3) := by decide +kernel
theorem dX9_amnesty_41 : decode cX9_amnesty 41 = .ok (.iload_n 1, 1) := by decide +kernel
theorem dX9_amnesty_42 : decode cX9_amnesty 42 = .ok (.iload 4, 2) := by decide +kernel
theorem dX9_amnesty_44 : decode cX9_amnesty 44 = .ok (.irem, 1) := by decide +kernel
theorem dX9_amnesty_45 : decode cX9_amnesty 45 = .ok (.ifCond .ne 10, 3) := by decide +kernel
theorem dX9_amnesty_48 : decode cX9_amnesty 48 = .ok (.iload_n 3, 1) := by decide +kernel
theorem dX9_amnesty_49 : decode cX9_amnesty 49 = .ok (.iload 4, 2) := by decide +kernel
theorem dX9_amnesty_51 : decode cX9_amnesty 51 = .ok (.irem, 1) := by decide +kernel
theorem dX9_amnesty_52 : decode cX9_amnesty 52 = .ok (.ifCond .eq 9, 3) := by decide +kernel
theorem dX9_amnesty_55 : decode cX9_amnesty 55 = .ok (.iinc 4 (-1), 3) := by decide +kernel
theorem dX9_amnesty_58 : decode cX9_amnesty 58 = .ok (.goto (-23), 3) := by decide +kernel
theorem dX9_amnesty_61 : decode cX9_amnesty 61 = .ok (.iload_n 2, 1) := by decide +kernel
theorem dX9_amnesty_62 : decode cX9_amnesty 62 = .ok (.ifCond .ne 7, 3) := by decide +kernel
theorem dX9_amnesty_65 : decode cX9_amnesty 65 = .ok (.iload_n 1, 1) := by decide +kernel
theorem dX9_amnesty_66 : decode cX9_amnesty 66 = .ok (.goto 4, 3) := by decide +kernel
theorem dX9_amnesty_69 : decode cX9_amnesty 69 = .ok (.iload_n 3, 1) := by decide +kernel
theorem dX9_amnesty_70 : decode cX9_amnesty 70 = .ok (.iload 4, 2) := by decide +kernel
theorem dX9_amnesty_72 : decode cX9_amnesty 72 = .ok (.idiv, 1) := by decide +kernel
theorem dX9_amnesty_73 : decode cX9_amnesty 73 = .ok (.ireturn, 1) := by decide +kernel
theorem dX9_lots_0 : decode cX9_lots 0 = .ok (.iload_n 1, 1) := by decide +kernel
theorem dX9_lots_1 : decode cX9_lots 1 = .ok (.iconst 0, 1) := by decide +kernel
theorem dX9_lots_2 : decode cX9_lots 2 = .ok (.sipush 9999, 3) := by decide +kernel
theorem dX9_lots_5 : decode cX9_lots 5 = .ok (.invokestatic 142, 3) := by decide +kernel
theorem dX9_lots_8 : decode cX9_lots 8 = .ok (.ifCond .eq 13, 3) := by decide +kernel
theorem dX9_lots_11 : decode cX9_lots 11 = .ok (.iload_n 2, 1) := by decide +kernel
theorem dX9_lots_12 : decode cX9_lots 12 = .ok (.iconst 1, 1) := by decide +kernel
theorem dX9_lots_13 : decode cX9_lots 13 = .ok (.bipush 20, 2) := by decide +kernel
theorem dX9_lots_15 : decode cX9_lots 15 = .ok (.invokestatic 142, 3) := by decide +kernel
theorem dX9_lots_18 : decode cX9_lots 18 = .ok (.ifCond .ne 5, 3) := by decide +kernel
theorem dX9_lots_21 : decode cX9_lots 21 = .ok (.iconst (-1), 1) := by decide +kernel
theorem dX9_lots_22 : decode cX9_lots 22 = .ok (.ireturn, 1) := by decide +kernel
theorem dX9_lots_23 : decode cX9_lots 23 = .ok (.iload_n 3, 1) := by decide +kernel
theorem dX9_lots_24 : decode cX9_lots 24 = .ok (.iconst 1, 1) := by decide +kernel
theorem dX9_lots_25 : decode cX9_lots 25 = .ok (.bipush 120, 2) := by decide +kernel
theorem dX9_lots_27 : decode cX9_lots 27 = .ok (.invokestatic 142, 3) := by decide +kernel
theorem dX9_lots_30 : decode cX9_lots 30 = .ok (.ifCond .eq 13, 3) := by decide +kernel
theorem dX9_lots_33 : decode cX9_lots 33 = .ok (.iload 4, 2) := by decide +kernel
theorem dX9_lots_35 : decode cX9_lots 35 = .ok (.iconst 0, 1) := by decide +kernel
theorem dX9_lots_36 : decode cX9_lots 36 = .ok (.iconst 1, 1) := by decide +kernel
theorem dX9_lots_37 : decode cX9_lots 37 = .ok (.invokestatic 142, 3) := by decide +kernel
theorem dX9_lots_40 : decode cX9_lots 40 = .ok (.ifCond .ne 5, 3) := by decide +kernel
theorem dX9_lots_43 : decode cX9_lots 43 = .ok (.iconst (-1), 1) := by decide +kernel
theorem dX9_lots_44 : decode cX9_lots 44 = .ok (.ireturn, 1) := by decide +kernel
theorem dX9_lots_45 : decode cX9_lots 45 = .ok (.new 213, 3) := by decide +kernel
theorem dX9_lots_48 : decode cX9_lots 48 = .ok (.dup, 1) := by decide +kernel
theorem dX9_lots_49 : decode cX9_lots 49 = .ok (.iload_n 1, 1) := by decide +kernel
theorem dX9_lots_50 : decode cX9_lots 50 = .ok (.invokespecial 215, 3) := by decide +kernel
theorem dX9_lots_53 : decode cX9_lots 53 = .ok (.astore 5, 2) := by decide +kernel
theorem dX9_lots_55 : decode cX9_lots 55 = .ok (.iconst 0, 1) := by decide +kernel
theorem dX9_lots_56 : decode cX9_lots 56 = .ok (.istore 6, 2) := by decide +kernel
theorem dX9_lots_58 : decode cX9_lots 58 = .ok (.iconst 0, 1) := by decide +kernel
theorem dX9_lots_59 : decode cX9_lots 59 = .ok (.istore 7, 2) := by decide +kernel
theorem dX9_lots_61 : decode cX9_lots 61 = .ok (.iconst 0, 1) := by decide +kernel
theorem dX9_lots_62 : decode cX9_lots 62 = .ok (.istore 8, 2) := by decide +kernel
theorem dX9_lots_64 : decode cX9_lots 64 = .ok (.iload 8, 2) := by decide +kernel
theorem dX9_lots_66 : decode cX9_lots 66 = .ok (.iload_n 2, 1) := by decide +kernel
theorem dX9_lots_67 : decode cX9_lots 67 = .ok (.if_icmp .ge 102, 3) := by decide +kernel
theorem dX9_lots_70 : decode cX9_lots 70 = .ok (.aload_n 0, 1) := by decide +kernel
theorem dX9_lots_71 : decode cX9_lots 71 = .ok (.getfield 28, 3) := by decide +kernel
theorem dX9_lots_74 : decode cX9_lots 74 = .ok (.aload_n 0, 1) := by decide +kernel
theorem dX9_lots_75 : decode cX9_lots 75 = .ok (.getfield 24, 3) := by decide +kernel
theorem dX9_lots_78 : decode cX9_lots 78 = .ok (.invokevirtual 175, 3) := by decide +kernel
theorem dX9_lots_81 : decode cX9_lots 81 = .ok (.iconst 0, 1) := by decide +kernel
theorem dX9_lots_82 : decode cX9_lots 82 = .ok (.istore 9, 2) := by decide +kernel
theorem dX9_lots_84 : decode cX9_lots 84 = .ok (.iload 9, 2) := by decide +kernel
theorem dX9_lots_86 : decode cX9_lots 86 = .ok (.iload_n 3, 1) := by decide +kernel
theorem dX9_lots_87 : decode cX9_lots 87 = .ok (.if_icmp .ge 53, 3) := by decide +kernel
theorem dX9_lots_90 : decode cX9_lots 90 = .ok (.aload_n 0, 1) := by decide +kernel
theorem dX9_lots_91 : decode cX9_lots 91 = .ok (.getfield 28, 3) := by decide +kernel
theorem dX9_lots_94 : decode cX9_lots 94 = .ok (.aload 5, 2) := by decide +kernel
theorem dX9_lots_96 : decode cX9_lots 96 = .ok (.aload_n 0, 1) := by decide +kernel
theorem dX9_lots_97 : decode cX9_lots 97 = .ok (.getfield 24, 3) := by decide +kernel
theorem dX9_lots_100 : decode cX9_lots 100 = .ok (.getfield 75, 3) := by decide +kernel
theorem dX9_lots_103 : decode cX9_lots 103 = .ok (.getfield 217, 3) := by decide +kernel
theorem dX9_lots_106 : decode cX9_lots 106 = .ok (.iconst 1, 1) := by decide +kernel
theorem dX9_lots_107 : decode cX9_lots 107 = .ok (.iadd, 1) := by decide +kernel
theorem dX9_lots_108 : decode cX9_lots 108 = .ok (.invokevirtual 220, 3) := by decide +kernel
theorem dX9_lots_111 : decode cX9_lots 111 = .ok (.invokevirtual 165, 3) := by decide +kernel
theorem dX9_lots_114 : decode cX9_lots 114 = .ok (.iload 7, 2) := by decide +kernel
theorem dX9_lots_116 : decode cX9_lots 116 = .ok (.aload_n 0, 1) := by decide +kernel
theorem dX9_lots_117 : decode cX9_lots 117 = .ok (.getfield 28, 3) := by decide +kernel
theorem dX9_lots_120 : decode cX9_lots 120 = .ok (.invokevirtual 195, 3) := by decide +kernel
theorem dX9_lots_123 : decode cX9_lots 123 = .ok (.ifCond .eq 7, 3) := by decide +kernel
theorem dX9_lots_126 : decode cX9_lots 126 = .ok (.iconst 1, 1) := by decide +kernel
theorem dX9_lots_127 : decode cX9_lots 127 = .ok (.goto 4, 3) := by decide +kernel
theorem dX9_lots_130 : decode cX9_lots 130 = .ok (.iconst 0, 1) := by decide +kernel
theorem dX9_lots_131 : decode cX9_lots 131 = .ok (.iadd, 1) := by decide +kernel
theorem dX9_lots_132 : decode cX9_lots 132 = .ok (.istore 7, 2) := by decide +kernel
theorem dX9_lots_134 : decode cX9_lots 134 = .ok (.iinc 9 1, 3) := by decide +kernel
theorem dX9_lots_137 : decode cX9_lots 137 = .ok (.goto (-53), 3) := by decide +kernel
theorem dX9_lots_140 : decode cX9_lots 140 = .ok (.iload 6, 2) := by decide +kernel
theorem dX9_lots_142 : decode cX9_lots 142 = .ok (.aload_n 0, 1) := by decide +kernel
theorem dX9_lots_143 : decode cX9_lots 143 = .ok (.getfield 24, 3) := by decide +kernel
theorem dX9_lots_146 : decode cX9_lots 146 = .ok (.getfield 75, 3) := by decide +kernel
theorem dX9_lots_149 : decode cX9_lots 149 = .ok (.getfield 121, 3) := by decide +kernel
theorem dX9_lots_152 : decode cX9_lots 152 = .ok (.aload_n 0, 1) := by decide +kernel
theorem dX9_lots_153 : decode cX9_lots 153 = .ok (.getfield 28, 3) := by decide +kernel
theorem dX9_lots_156 : decode cX9_lots 156 = .ok (.invokevirtual 210, 3) := by decide +kernel
theorem dX9_lots_159 : decode cX9_lots 159 = .ok (.isub, 1) := by decide +kernel
theorem dX9_lots_160 : decode cX9_lots 160 = .ok (.iadd, 1) := by decide +kernel
theorem dX9_lots_161 : decode cX9_lots 161 = .ok (.istore 6, 2) := by decide +kernel
theorem dX9_lots_163 : decode cX9_lots 163 = .ok (.iinc 8 1, 3) := by decide +kernel
theorem dX9_lots_166 : decode cX9_lots 166 = .ok (.goto (-102), 3) := by decide +kernel
theorem dX9_lots_169 : decode cX9_lots 169 = .ok (.iload 4, 2) := by decide +kernel
theorem dX9_lots_171 : decode cX9_lots 171 = .ok (.ifCond .ne 8, 3) := by decide +kernel
theorem dX9_lots_174 : decode cX9_lots 174 = .ok (.iload 6, 2) := by decide +kernel
theorem dX9_lots_176 : decode cX9_lots 176 = .ok (.goto 5, 3) := by decide +kernel
theorem dX9_lots_179 : decode cX9_lots 179 = .ok (.iload 7, 2) := by decide +kernel
theorem dX9_lots_181 : decode cX9_lots 181 = .ok (.ireturn, 1) := by decide +kernel
theorem dX9_mark_0 : decode cX9_mark 0 = .ok (.iload_n 1, 1) := by decide +kernel
theorem dX9_mark_1 : decode cX9_mark 1 = .ok (.iconst 4, 1) := by decide +kernel
theorem dX9_mark_2 : decode cX9_mark 2 = .ok (.invokestatic 79, 3) := by decide +kernel
theorem dX9_mark_5 : decode cX9_mark 5 = .ok (.ifCond .ne 5, 3) := by decide +kernel
theorem dX9_mark_8 : decode cX9_mark 8 = .ok (.iconst 0, 1) := by decide +kernel
theorem dX9_mark_9 : decode cX9_mark 9 = .ok (.ireturn, 1) := by decide +kernel
theorem dX9_mark_10 : decode cX9_mark 10 = .ok (.iload_n 2, 1) := by decide +kernel
theorem dX9_mark_11 : decode cX9_mark 11 = .ok (.ifCond .eq 29, 3) := by decide +kernel
theorem dX9_mark_14 : decode cX9_mark 14 = .ok (.aload_n 0, 1) := by decide +kernel
theorem dX9_mark_15 : decode cX9_mark 15 = .ok (.getfield 31, 3) := by decide +kernel
theorem dX9_mark_18 : decode cX9_mark 18 = .ok (.iload_n 1, 1) := by decide +kernel
theorem dX9_mark_19 : decode cX9_mark 19 = .ok (.aaload, 1) := by decide +kernel
theorem dX9_mark_20 : decode cX9_mark 20 = .ok (.ifnonnull 5, 3) := by decide +kernel
theorem dX9_mark_23 : decode cX9_mark 23 = .ok (.iconst 0, 1) := by decide +kernel
theorem dX9_mark_24 : decode cX9_mark 24 = .ok (.ireturn, 1) := by decide +kernel
theorem dX9_mark_25 : decode cX9_mark 25 = .ok (.aload_n 0, 1) := by decide +kernel
theorem dX9_mark_26 : decode cX9_mark 26 = .ok (.getfield 24, 3) := by decide +kernel
theorem dX9_mark_29 : decode cX9_mark 29 = .ok (.aload_n 0, 1) := by decide +kernel
theorem dX9_mark_30 : decode cX9_mark 30 = .ok (.getfield 31, 3) := by decide +kernel
theorem dX9_mark_33 : decode cX9_mark 33 = .ok (.iload_n 1, 1) := by decide +kernel
theorem dX9_mark_34 : decode cX9_mark 34 = .ok (.aaload, 1) := by decide +kernel
theorem dX9_mark_35 : decode cX9_mark 35 = .ok (.invokevirtual 175, 3) := by decide +kernel
theorem dX9_mark_38 : decode cX9_mark 38 = .ok (.iconst 1, 1) := by decide +kernel
theorem dX9_mark_39 : decode cX9_mark 39 = .ok (.ireturn, 1) := by decide +kernel
theorem dX9_mark_40 : decode cX9_mark 40 = .ok (.aload_n 0, 1) := by decide +kernel
theorem dX9_mark_41 : decode cX9_mark 41 = .ok (.getfield 31, 3) := by decide +kernel
theorem dX9_mark_44 : decode cX9_mark 44 = .ok (.iload_n 1, 1) := by decide +kernel
theorem dX9_mark_45 : decode cX9_mark 45 = .ok (.aaload, 1) := by decide +kernel
theorem dX9_mark_46 : decode cX9_mark 46 = .ok (.ifnonnull 23, 3) := by decide +kernel
theorem dX9_mark_49 : decode cX9_mark 49 = .ok (.aload_n 0, 1) := by decide +kernel
theorem dX9_mark_50 : decode cX9_mark 50 = .ok (.getfield 31, 3) := by decide +kernel
theorem dX9_mark_53 : decode cX9_mark 53 = .ok (.iload_n 1, 1) := by decide +kernel
theorem dX9_mark_54 : decode cX9_mark 54 = .ok (.new 19, 3) := by decide +kernel
theorem dX9_mark_57 : decode cX9_mark 57 = .ok (.dup, 1) := by decide +kernel
theorem dX9_mark_58 : decode cX9_mark 58 = .ok (.aload_n 0, 1) := by decide +kernel
theorem dX9_mark_59 : decode cX9_mark 59 = .ok (.getfield 24, 3) := by decide +kernel
theorem dX9_mark_62 : decode cX9_mark 62 = .ok (.getfield 75, 3) := by decide +kernel
theorem dX9_mark_65 : decode cX9_mark 65 = .ok (.invokespecial 21, 3) := by decide +kernel
theorem dX9_mark_68 : decode cX9_mark 68 = .ok (.aastore, 1) := by decide +kernel
theorem dX9_mark_69 : decode cX9_mark 69 = .ok (.aload_n 0, 1) := by decide +kernel
theorem dX9_mark_70 : decode cX9_mark 70 = .ok (.getfield 31, 3) := by decide +kernel
theorem dX9_mark_73 : decode cX9_mark 73 = .ok (.iload_n 1, 1) := by decide +kernel
theorem dX9_mark_74 : decode cX9_mark 74 = .ok (.aaload, 1) := by decide +kernel
theorem dX9_mark_75 : decode cX9_mark 75 = .ok (.aload_n 0, 1) := by decide +kernel
theorem dX9_mark_76 : decode cX9_mark 76 = .ok (.getfield 24, 3) := by decide +kernel
theorem dX9_mark_79 : decode cX9_mark 79 = .ok (.invokevirtual 175, 3) := by decide +kernel
theorem dX9_mark_82 : decode cX9_mark 82 = .ok (.iconst 1, 1) := by decide +kernel
theorem dX9_mark_83 : decode cX9_mark 83 = .ok (.ireturn, 1) := by decide +kernel
theorem dX9_count_0 : decode cX9_count 0 = .ok (.iload_n 1, 1) := by decide +kernel
theorem dX9_count_1 : decode cX9_count 1 = .ok (.tableswitch 126 0 7 #[47, 58, 69, 80, 91, 99, 107, 118], 47) := by decide +kernel
theorem dX9_count_48 : decode cX9_count 48 = .ok (.aload_n 0, 1) := by decide +kernel
theorem dX9_count_49 : decode cX9_count 49 = .ok (.getfield 24, 3) := by decide +kernel
theorem dX9_count_52 : decode cX9_count 52 = .ok (.getfield 75, 3) := by decide +kernel
theorem dX9_count_55 : decode cX9_count 55 = .ok (.getfield 76, 3) := by decide +kernel
theorem dX9_count_58 : decode cX9_count 58 = .ok (.ireturn, 1) := by decide +kernel
theorem dX9_count_59 : decode cX9_count 59 = .ok (.aload_n 0, 1) := by decide +kernel
theorem dX9_count_60 : decode cX9_count 60 = .ok (.getfield 24, 3) := by decide +kernel
theorem dX9_count_63 : decode cX9_count 63 = .ok (.getfield 75, 3) := by decide +kernel
theorem dX9_count_66 : decode cX9_count 66 = .ok (.getfield 97, 3) := by decide +kernel
theorem dX9_count_69 : decode cX9_count 69 = .ok (.ireturn, 1) := by decide +kernel
theorem dX9_count_70 : decode cX9_count 70 = .ok (.aload_n 0, 1) := by decide +kernel
theorem dX9_count_71 : decode cX9_count 71 = .ok (.getfield 24, 3) := by decide +kernel
theorem dX9_count_74 : decode cX9_count 74 = .ok (.getfield 75, 3) := by decide +kernel
theorem dX9_count_77 : decode cX9_count 77 = .ok (.getfield 121, 3) := by decide +kernel
theorem dX9_count_80 : decode cX9_count 80 = .ok (.ireturn, 1) := by decide +kernel
theorem dX9_count_81 : decode cX9_count 81 = .ok (.aload_n 0, 1) := by decide +kernel
theorem dX9_count_82 : decode cX9_count 82 = .ok (.getfield 24, 3) := by decide +kernel
theorem dX9_count_85 : decode cX9_count 85 = .ok (.getfield 75, 3) := by decide +kernel
theorem dX9_count_88 : decode cX9_count 88 = .ok (.getfield 223, 3) := by decide +kernel
theorem dX9_count_91 : decode cX9_count 91 = .ok (.ireturn, 1) := by decide +kernel
theorem dX9_count_92 : decode cX9_count 92 = .ok (.aload_n 0, 1) := by decide +kernel
theorem dX9_count_93 : decode cX9_count 93 = .ok (.getfield 24, 3) := by decide +kernel
theorem dX9_count_96 : decode cX9_count 96 = .ok (.getfield 169, 3) := by decide +kernel
theorem dX9_count_99 : decode cX9_count 99 = .ok (.ireturn, 1) := by decide +kernel
theorem dX9_count_100 : decode cX9_count 100 = .ok (.aload_n 0, 1) := by decide +kernel
theorem dX9_count_101 : decode cX9_count 101 = .ok (.getfield 24, 3) := by decide +kernel
theorem dX9_count_104 : decode cX9_count 104 = .ok (.invokevirtual 210, 3) := by decide +kernel
theorem dX9_count_107 : decode cX9_count 107 = .ok (.ireturn, 1) := by decide +kernel
theorem dX9_count_108 : decode cX9_count 108 = .ok (.aload_n 0, 1) := by decide +kernel
theorem dX9_count_109 : decode cX9_count 109 = .ok (.getfield 24, 3) := by decide +kernel
theorem dX9_count_112 : decode cX9_count 112 = .ok (.getfield 75, 3) := by decide +kernel
theorem dX9_count_115 : decode cX9_count 115 = .ok (.getfield 217, 3) := by decide +kernel
theorem dX9_count_118 : decode cX9_count 118 = .ok (.ireturn, 1) := by decide +kernel
theorem dX9_count_119 : decode cX9_count 119 = .ok (.aload_n 0, 1) := by decide +kernel
theorem dX9_count_120 : decode cX9_count 120 = .ok (.getfield 12, 3) := by decide +kernel
theorem dX9_count_123 : decode cX9_count 123 = .ok (.getfield 55, 3) := by decide +kernel
theorem dX9_count_126 : decode cX9_count 126 = .ok (.ireturn, 1) := by decide +kernel
theorem dX9_count_127 : decode cX9_count 127 = .ok (.iconst (-1), 1) := by decide +kernel
theorem dX9_count_128 : decode cX9_count 128 = .ok (.ireturn, 1) := by decide +kernel
theorem dX9_isBelow_0 : decode cX9_isBelow 0 = .ok (.iload_n 0, 1) := by decide +kernel
theorem dX9_isBelow_1 : decode cX9_isBelow 1 = .ok (.ifCond .lt 12, 3) := by decide +kernel
theorem dX9_isBelow_4 : decode cX9_isBelow 4 = .ok (.iload_n 0, 1) := by decide +kernel
theorem dX9_isBelow_5 : decode cX9_isBelow 5 = .ok (.iload_n 1, 1) := by decide +kernel
theorem dX9_isBelow_6 : decode cX9_isBelow 6 = .ok (.if_icmp .ge 7, 3) := by decide +kernel
theorem dX9_isBelow_9 : decode cX9_isBelow 9 = .ok (.iconst 1, 1) := by decide +kernel
theorem dX9_isBelow_10 : decode cX9_isBelow 10 = .ok (.goto 4, 3) := by decide +kernel
theorem dX9_isBelow_13 : decode cX9_isBelow 13 = .ok (.iconst 0, 1) := by decide +kernel
theorem dX9_isBelow_14 : decode cX9_isBelow 14 = .ok (.ireturn, 1) := by decide +kernel
theorem dX9_isWithin_0 : decode cX9_isWithin 0 = .ok (.iload_n 0, 1) := by decide +kernel
theorem dX9_isWithin_1 : decode cX9_isWithin 1 = .ok (.iload_n 1, 1) := by decide +kernel
theorem dX9_isWithin_2 : decode cX9_isWithin 2 = .ok (.if_icmp .lt 12, 3) := by decide +kernel
theorem dX9_isWithin_5 : decode cX9_isWithin 5 = .ok (.iload_n 0, 1) := by decide +kernel
theorem dX9_isWithin_6 : decode cX9_isWithin 6 = .ok (.iload_n 2, 1) := by decide +kernel
theorem dX9_isWithin_7 : decode cX9_isWithin 7 = .ok (.if_icmp .gt 7, 3) := by decide +kernel
theorem dX9_isWithin_10 : decode cX9_isWithin 10 = .ok (.iconst 1, 1) := by decide +kernel
theorem dX9_isWithin_11 : decode cX9_isWithin 11 = .ok (.goto 4, 3) := by decide +kernel
theorem dX9_isWithin_14 : decode cX9_isWithin 14 = .ok (.iconst 0, 1) := by decide +kernel
theorem dX9_isWithin_15 : decode cX9_isWithin 15 = .ok (.ireturn, 1) := by decide +kernel
theorem dX9_isAhead_0 : decode cX9_isAhead 0 = .ok (.iload_n 0, 1) := by decide +kernel
theorem dX9_isAhead_1 : decode cX9_isAhead 1 = .ok (.iconst 1, 1) := by decide +kernel
theorem dX9_isAhead_2 : decode cX9_isAhead 2 = .ok (.sipush 240, 3) := by decide +kernel
theorem dX9_isAhead_5 : decode cX9_isAhead 5 = .ok (.invokestatic 142, 3) := by decide +kernel
theorem dX9_isAhead_8 : decode cX9_isAhead 8 = .ok (.ireturn, 1) := by decide +kernel
theorem dX9_isHeld_0 : decode cX9_isHeld 0 = .ok (.iload_n 1, 1) := by decide +kernel
theorem dX9_isHeld_1 : decode cX9_isHeld 1 = .ok (.aload_n 0, 1) := by decide +kernel
theorem dX9_isHeld_2 : decode cX9_isHeld 2 = .ok (.getfield 24, 3) := by decide +kernel
theorem dX9_isHeld_5 : decode cX9_isHeld 5 = .ok (.getfield 75, 3) := by decide +kernel
theorem dX9_isHeld_8 : decode cX9_isHeld 8 = .ok (.getfield 121, 3) := by decide +kernel
theorem dX9_isHeld_11 : decode cX9_isHeld 11 = .ok (.invokestatic 79, 3) := by decide +kernel
theorem dX9_isHeld_14 : decode cX9_isHeld 14 = .ok (.ifCond .eq 20, 3) := by decide +kernel
theorem dX9_isHeld_17 : decode cX9_isHeld 17 = .ok (.aload_n 0, 1) := by decide +kernel
theorem dX9_isHeld_18 : decode cX9_isHeld 18 = .ok (.getfield 24, 3) := by decide +kernel
theorem dX9_isHeld_21 : decode cX9_isHeld 21 = .ok (.getfield 131, 3) := by decide +kernel
theorem dX9_isHeld_24 : decode cX9_isHeld 24 = .ok (.iload_n 1, 1) := by decide +kernel
theorem dX9_isHeld_25 : decode cX9_isHeld 25 = .ok (.iaload, 1) := by decide +kernel
theorem dX9_isHeld_26 : decode cX9_isHeld 26 = .ok (.iconst (-1), 1) := by decide +kernel
theorem dX9_isHeld_27 : decode cX9_isHeld 27 = .ok (.if_icmp .eq 7, 3) := by decide +kernel
theorem dX9_isHeld_30 : decode cX9_isHeld 30 = .ok (.iconst 1, 1) := by decide +kernel
theorem dX9_isHeld_31 : decode cX9_isHeld 31 = .ok (.goto 4, 3) := by decide +kernel
theorem dX9_isHeld_34 : decode cX9_isHeld 34 = .ok (.iconst 0, 1) := by decide +kernel
theorem dX9_isHeld_35 : decode cX9_isHeld 35 = .ok (.ireturn, 1) := by decide +kernel
theorem dX9_findSoonest_0 : decode cX9_findSoonest 0 = .ok (.aload_n 0, 1) := by decide +kernel
theorem dX9_findSoonest_1 : decode cX9_findSoonest 1 = .ok (.getfield 35, 3) := by decide +kernel
theorem dX9_findSoonest_4 : decode cX9_findSoonest 4 = .ok (.iload_n 1, 1) := by decide +kernel
theorem dX9_findSoonest_5 : decode cX9_findSoonest 5 = .ok (.iconst 1, 1) := by decide +kernel
theorem dX9_findSoonest_6 : decode cX9_findSoonest 6 = .ok (.iadd, 1) := by decide +kernel
theorem dX9_findSoonest_7 : decode cX9_findSoonest 7 = .ok (.invokestatic 226, 3) := by decide +kernel
theorem dX9_findSoonest_10 : decode cX9_findSoonest 10 = .ok (.aload_n 0, 1) := by decide +kernel
theorem dX9_findSoonest_11 : decode cX9_findSoonest 11 = .ok (.getfield 28, 3) := by decide +kernel
theorem dX9_findSoonest_14 : decode cX9_findSoonest 14 = .ok (.aload_n 0, 1) := by decide +kernel
theorem dX9_findSoonest_15 : decode cX9_findSoonest 15 = .ok (.getfield 24, 3) := by decide +kernel
theorem dX9_findSoonest_18 : decode cX9_findSoonest 18 = .ok (.invokevirtual 175, 3) := by decide +kernel
theorem dX9_findSoonest_21 : decode cX9_findSoonest 21 = .ok (.aload_n 0, 1) := by decide +kernel
theorem dX9_findSoonest_22 : decode cX9_findSoonest 22 = .ok (.iconst 0, 1) := by decide +kernel
theorem dX9_findSoonest_23 : decode cX9_findSoonest 23 = .ok (.iload_n 1, 1) := by decide +kernel
theorem dX9_findSoonest_24 : decode cX9_findSoonest 24 = .ok (.invokevirtual 232, 3) := by decide +kernel
theorem dX9_findSoonest_27 : decode cX9_findSoonest 27 = .ok (.istore_n 2, 1) := by decide +kernel
theorem dX9_findSoonest_28 : decode cX9_findSoonest 28 = .ok (.iconst 1, 1) := by decide +kernel
theorem dX9_findSoonest_29 : decode cX9_findSoonest 29 = .ok (.istore_n 3, 1) := by decide +kernel
theorem dX9_findSoonest_30 : decode cX9_findSoonest 30 = .ok (.iload_n 3, 1) := by decide +kernel
theorem dX9_findSoonest_31 : decode cX9_findSoonest 31 = .ok (.iload_n 1, 1) := by decide +kernel
theorem dX9_findSoonest_32 : decode cX9_findSoonest 32 = .ok (.if_icmp .gt 28, 3) := by decide +kernel
theorem dX9_findSoonest_35 : decode cX9_findSoonest 35 = .ok (.iload_n 2, 1) := by decide +kernel
theorem dX9_findSoonest_36 : decode cX9_findSoonest 36 = .ok (.ifCond .le 24, 3) := by decide +kernel
theorem dX9_findSoonest_39 : decode cX9_findSoonest 39 = .ok (.aload_n 0, 1) := by decide +kernel
theorem dX9_findSoonest_40 : decode cX9_findSoonest 40 = .ok (.getfield 28, 3) := by decide +kernel
theorem dX9_findSoonest_43 : decode cX9_findSoonest 43 = .ok (.iconst 0, 1) := by decide +kernel
theorem dX9_findSoonest_44 : decode cX9_findSoonest 44 = .ok (.invokevirtual 165, 3) := by decide +kernel
theorem dX9_findSoonest_47 : decode cX9_findSoonest 47 = .ok (.aload_n 0, 1) := by decide +kernel
theorem dX9_findSoonest_48 : decode cX9_findSoonest 48 = .ok (.iload_n 3, 1) := by decide +kernel
theorem dX9_findSoonest_49 : decode cX9_findSoonest 49 = .ok (.iload_n 1, 1) := by decide +kernel
theorem dX9_findSoonest_50 : decode cX9_findSoonest 50 = .ok (.invokevirtual 232, 3) := by decide +kernel
theorem dX9_findSoonest_53 : decode cX9_findSoonest 53 = .ok (.istore_n 2, 1) := by decide +kernel
theorem dX9_findSoonest_54 : decode cX9_findSoonest 54 = .ok (.iinc 3 1, 3) := by decide +kernel
theorem dX9_findSoonest_57 : decode cX9_findSoonest 57 = .ok (.goto (-27), 3) := by decide +kernel
theorem dX9_findSoonest_60 : decode cX9_findSoonest 60 = .ok (.return_, 1) := by decide +kernel
theorem dX9_noteLoose_0 : decode cX9_noteLoose 0 = .ok (.iconst 0, 1) := by decide +kernel
theorem dX9_noteLoose_1 : decode cX9_noteLoose 1 = .ok (.istore_n 3, 1) := by decide +kernel
theorem dX9_noteLoose_2 : decode cX9_noteLoose 2 = .ok (.iconst 0, 1) := by decide +kernel
theorem dX9_noteLoose_3 : decode cX9_noteLoose 3 = .ok (.istore 4, 2) := by decide +kernel
theorem dX9_noteLoose_5 : decode cX9_noteLoose 5 = .ok (.iload 4, 2) := by decide +kernel
theorem dX9_noteLoose_7 : decode cX9_noteLoose 7 = .ok (.aload_n 0, 1) := by decide +kernel
theorem dX9_noteLoose_8 : decode cX9_noteLoose 8 = .ok (.getfield 24, 3) := by decide +kernel
theorem dX9_noteLoose_11 : decode cX9_noteLoose 11 = .ok (.getfield 75, 3) := by decide +kernel
theorem dX9_noteLoose_14 : decode cX9_noteLoose 14 = .ok (.getfield 97, 3) := by decide +kernel
theorem dX9_noteLoose_17 : decode cX9_noteLoose 17 = .ok (.if_icmp .ge 50, 3) := by decide +kernel
theorem dX9_noteLoose_20 : decode cX9_noteLoose 20 = .ok (.aload_n 0, 1) := by decide +kernel
theorem dX9_noteLoose_21 : decode cX9_noteLoose 21 = .ok (.getfield 35, 3) := by decide +kernel
theorem dX9_noteLoose_24 : decode cX9_noteLoose 24 = .ok (.iload 4, 2) := by decide +kernel
theorem dX9_noteLoose_26 : decode cX9_noteLoose 26 = .ok (.iaload, 1) := by decide +kernel
theorem dX9_noteLoose_27 : decode cX9_noteLoose 27 = .ok (.iload_n 2, 1) := by decide +kernel
theorem dX9_noteLoose_28 : decode cX9_noteLoose 28 = .ok (.if_icmp .le 33, 3) := by decide +kernel
theorem dX9_noteLoose_31 : decode cX9_noteLoose 31 = .ok (.aload_n 0, 1) := by decide +kernel
theorem dX9_noteLoose_32 : decode cX9_noteLoose 32 = .ok (.getfield 28, 3) := by decide +kernel
theorem dX9_noteLoose_35 : decode cX9_noteLoose 35 = .ok (.getfield 100, 3) := by decide +kernel
theorem dX9_noteLoose_38 : decode cX9_noteLoose 38 = .ok (.iload 4, 2) := by decide +kernel
theorem dX9_noteLoose_40 : decode cX9_noteLoose 40 = .ok (.aaload, 1) := by decide +kernel
theorem dX9_noteLoose_41 : decode cX9_noteLoose 41 = .ok (.invokevirtual 179, 3) := by decide +kernel
theorem dX9_noteLoose_44 : decode cX9_noteLoose 44 = .ok (.ifCond .eq 14, 3) := by decide +kernel
theorem dX9_noteLoose_47 : decode cX9_noteLoose 47 = .ok (.aload_n 0, 1) := by decide +kernel
theorem dX9_noteLoose_48 : decode cX9_noteLoose 48 = .ok (.getfield 35, 3) := by decide +kernel
theorem dX9_noteLoose_51 : decode cX9_noteLoose 51 = .ok (.iload 4, 2) := by decide +kernel
theorem dX9_noteLoose_53 : decode cX9_noteLoose 53 = .ok (.iload_n 1, 1) := by decide +kernel
theorem dX9_noteLoose_54 : decode cX9_noteLoose 54 = .ok (.iastore, 1) := by decide +kernel
theorem dX9_noteLoose_55 : decode cX9_noteLoose 55 = .ok (.goto 6, 3) := by decide +kernel
theorem dX9_noteLoose_58 : decode cX9_noteLoose 58 = .ok (.iinc 3 1, 3) := by decide +kernel
theorem dX9_noteLoose_61 : decode cX9_noteLoose 61 = .ok (.iinc 4 1, 3) := by decide +kernel
theorem dX9_noteLoose_64 : decode cX9_noteLoose 64 = .ok (.goto (-59), 3) := by decide +kernel
theorem dX9_noteLoose_67 : decode cX9_noteLoose 67 = .ok (.iload_n 3, 1) := by decide +kernel
theorem dX9_noteLoose_68 : decode cX9_noteLoose 68 = .ok (.ireturn, 1) := by decide +kernel
theorem dX9_orderDoors_0 : decode cX9_orderDoors 0 = .ok (.aload_n 0, 1) := by decide +kernel
theorem dX9_orderDoors_1 : decode cX9_orderDoors 1 = .ok (.iload_n 1, 1) := by decide +kernel
theorem dX9_orderDoors_2 : decode cX9_orderDoors 2 = .ok (.invokevirtual 235, 3) := by decide +kernel
theorem dX9_orderDoors_5 : decode cX9_orderDoors 5 = .ok (.iconst 0, 1) := by decide +kernel
theorem dX9_orderDoors_6 : decode cX9_orderDoors 6 = .ok (.istore_n 2, 1) := by decide +kernel
theorem dX9_orderDoors_7 : decode cX9_orderDoors 7 = .ok (.iload_n 2, 1) := by decide +kernel
theorem dX9_orderDoors_8 : decode cX9_orderDoors 8 = .ok (.aload_n 0, 1) := by decide +kernel
theorem dX9_orderDoors_9 : decode cX9_orderDoors 9 = .ok (.getfield 24, 3) := by decide +kernel
theorem dX9_orderDoors_12 : decode cX9_orderDoors 12 = .ok (.getfield 75, 3) := by decide +kernel
theorem dX9_orderDoors_15 : decode cX9_orderDoors 15 = .ok (.getfield 97, 3) := by decide +kernel
theorem dX9_orderDoors_18 : decode cX9_orderDoors 18 = .ok (.if_icmp .ge 64, 3) := by decide +kernel
theorem dX9_orderDoors_21 : decode cX9_orderDoors 21 = .ok (.iload_n 2, 1) := by decide +kernel
theorem dX9_orderDoors_22 : decode cX9_orderDoors 22 = .ok (.istore_n 3, 1) := by decide +kernel
theorem dX9_orderDoors_23 : decode cX9_orderDoors 23 = .ok (.iload_n 3, 1) := by decide +kernel
theorem dX9_orderDoors_24 : decode cX9_orderDoors 24 = .ok (.ifCond .le 45, 3) := by decide +kernel
theorem dX9_orderDoors_27 : decode cX9_orderDoors 27 = .ok (.aload_n 0, 1) := by decide +kernel
theorem dX9_orderDoors_28 : decode cX9_orderDoors 28 = .ok (.getfield 35, 3) := by decide +kernel
theorem dX9_orderDoors_31 : decode cX9_orderDoors 31 = .ok (.aload_n 0, 1) := by decide +kernel
theorem dX9_orderDoors_32 : decode cX9_orderDoors 32 = .ok (.getfield 39, 3) := by decide +kernel
theorem dX9_orderDoors_35 : decode cX9_orderDoors 35 = .ok (.iload_n 3, 1) := by decide +kernel
theorem dX9_orderDoors_36 : decode cX9_orderDoors 36 = .ok (.iconst 1, 1) := by decide +kernel
theorem dX9_orderDoors_37 : decode cX9_orderDoors 37 = .ok (.isub, 1) := by decide +kernel
theorem dX9_orderDoors_38 : decode cX9_orderDoors 38 = .ok (.iaload, 1) := by decide +kernel
theorem dX9_orderDoors_39 : decode cX9_orderDoors 39 = .ok (.iaload, 1) := by decide +kernel
theorem dX9_orderDoors_40 : decode cX9_orderDoors 40 = .ok (.aload_n 0, 1) := by decide +kernel
theorem dX9_orderDoors_41 : decode cX9_orderDoors 41 = .ok (.getfield 35, 3) := by decide +kernel
theorem dX9_orderDoors_44 : decode cX9_orderDoors 44 = .ok (.iload_n 2, 1) := by decide +kernel
theorem dX9_orderDoors_45 : decode cX9_orderDoors 45 = .ok (.iaload, 1) := by decide +kernel
theorem dX9_orderDoors_46 : decode cX9_orderDoors 46 = .ok (.if_icmp .le 23, 3) := by decide +kernel
theorem dX9_orderDoors_49 : decode cX9_orderDoors 49 = .ok (.aload_n 0, 1) := by decide +kernel
theorem dX9_orderDoors_50 : decode cX9_orderDoors 50 = .ok (.getfield 39, 3) := by decide +kernel
theorem dX9_orderDoors_53 : decode cX9_orderDoors 53 = .ok (.iload_n 3, 1) := by decide +kernel
theorem dX9_orderDoors_54 : decode cX9_orderDoors 54 = .ok (.aload_n 0, 1) := by decide +kernel
theorem dX9_orderDoors_55 : decode cX9_orderDoors 55 = .ok (.getfield 39, 3) := by decide +kernel
theorem dX9_orderDoors_58 : decode cX9_orderDoors 58 = .ok (.iload_n 3, 1) := by decide +kernel
theorem dX9_orderDoors_59 : decode cX9_orderDoors 59 = .ok (.iconst 1, 1) := by decide +kernel
theorem dX9_orderDoors_60 : decode cX9_orderDoors 60 = .ok (.isub, 1) := by decide +kernel
theorem dX9_orderDoors_61 : decode cX9_orderDoors 61 = .ok (.iaload, 1) := by decide +kernel
theorem dX9_orderDoors_62 : decode cX9_orderDoors 62 = .ok (.iastore, 1) := by decide +kernel
theorem dX9_orderDoors_63 : decode cX9_orderDoors 63 = .ok (.iinc 3 (-1), 3) := by decide +kernel
theorem dX9_orderDoors_66 : decode cX9_orderDoors 66 = .ok (.goto (-43), 3) := by decide +kernel
theorem dX9_orderDoors_69 : decode cX9_orderDoors 69 = .ok (.aload_n 0, 1) := by decide +kernel
theorem dX9_orderDoors_70 : decode cX9_orderDoors 70 = .ok (.getfield 39, 3) := by decide +kernel
theorem dX9_orderDoors_73 : decode cX9_orderDoors 73 = .ok (.iload_n 3, 1) := by decide +kernel
theorem dX9_orderDoors_74 : decode cX9_orderDoors 74 = .ok (.iload_n 2, 1) := by decide +kernel
theorem dX9_orderDoors_75 : decode cX9_orderDoors 75 = .ok (.iastore, 1) := by decide +kernel
theorem dX9_orderDoors_76 : decode cX9_orderDoors 76 = .ok (.iinc 2 1, 3) := by decide +kernel
theorem dX9_orderDoors_79 : decode cX9_orderDoors 79 = .ok (.goto (-72), 3) := by decide +kernel
theorem dX9_orderDoors_82 : decode cX9_orderDoors 82 = .ok (.return_, 1) := by decide +kernel
theorem dX9_foresee_0 : decode cX9_foresee 0 = .ok (.aload_n 0, 1) := by decide +kernel
theorem dX9_foresee_1 : decode cX9_foresee 1 = .ok (.getfield 28, 3) := by decide +kernel
theorem dX9_foresee_4 : decode cX9_foresee 4 = .ok (.aload_n 0, 1) := by decide +kernel
theorem dX9_foresee_5 : decode cX9_foresee 5 = .ok (.getfield 24, 3) := by decide +kernel
theorem dX9_foresee_8 : decode cX9_foresee 8 = .ok (.invokevirtual 175, 3) := by decide +kernel
theorem dX9_foresee_11 : decode cX9_foresee 11 = .ok (.aload_n 0, 1) := by decide +kernel
theorem dX9_foresee_12 : decode cX9_foresee 12 = .ok (.getfield 28, 3) := by decide +kernel
theorem dX9_foresee_15 : decode cX9_foresee 15 = .ok (.iload_n 1, 1) := by decide +kernel
theorem dX9_foresee_16 : decode cX9_foresee 16 = .ok (.putfield 238, 3) := by decide +kernel
theorem dX9_foresee_19 : decode cX9_foresee 19 = .ok (.iconst 0, 1) := by decide +kernel
theorem dX9_foresee_20 : decode cX9_foresee 20 = .ok (.istore_n 3, 1) := by decide +kernel
theorem dX9_foresee_21 : decode cX9_foresee 21 = .ok (.iload_n 3, 1) := by decide +kernel
theorem dX9_foresee_22 : decode cX9_foresee 22 = .ok (.iload_n 2, 1) := by decide +kernel
theorem dX9_foresee_23 : decode cX9_foresee 23 = .ok (.if_icmp .ge 46, 3) := by decide +kernel
theorem dX9_foresee_26 : decode cX9_foresee 26 = .ok (.aload_n 0, 1) := by decide +kernel
theorem dX9_foresee_27 : decode cX9_foresee 27 = .ok (.getfield 42, 3) := by decide +kernel
theorem dX9_foresee_30 : decode cX9_foresee 30 = .ok (.iload_n 3, 1) := by decide +kernel
theorem dX9_foresee_31 : decode cX9_foresee 31 = .ok (.aload_n 0, 1) := by decide +kernel
theorem dX9_foresee_32 : decode cX9_foresee 32 = .ok (.getfield 28, 3) := by decide +kernel
theorem dX9_foresee_35 : decode cX9_foresee 35 = .ok (.iconst 0, 1) := by decide +kernel
theorem dX9_foresee_36 : decode cX9_foresee 36 = .ok (.iconst 0, 1) := by decide +kernel
theorem dX9_foresee_37 : decode cX9_foresee 37 = .ok (.invokevirtual 148, 3) := by decide +kernel
theorem dX9_foresee_40 : decode cX9_foresee 40 = .ok (.iastore, 1) := by decide +kernel
theorem dX9_foresee_41 : decode cX9_foresee 41 = .ok (.aload_n 0, 1) := by decide +kernel
theorem dX9_foresee_42 : decode cX9_foresee 42 = .ok (.getfield 45, 3) := by decide +kernel
theorem dX9_foresee_45 : decode cX9_foresee 45 = .ok (.iload_n 3, 1) := by decide +kernel
theorem dX9_foresee_46 : decode cX9_foresee 46 = .ok (.aload_n 0, 1) := by decide +kernel
theorem dX9_foresee_47 : decode cX9_foresee 47 = .ok (.getfield 28, 3) := by decide +kernel
theorem dX9_foresee_50 : decode cX9_foresee 50 = .ok (.iload_n 1, 1) := by decide +kernel
theorem dX9_foresee_51 : decode cX9_foresee 51 = .ok (.invokevirtual 241, 3) := by decide +kernel
theorem dX9_foresee_54 : decode cX9_foresee 54 = .ok (.iastore, 1) := by decide +kernel
theorem dX9_foresee_55 : decode cX9_foresee 55 = .ok (.aload_n 0, 1) := by decide +kernel
theorem dX9_foresee_56 : decode cX9_foresee 56 = .ok (.getfield 28, 3) := by decide +kernel
theorem dX9_foresee_59 : decode cX9_foresee 59 = .ok (.iconst 0, 1) := by decide +kernel
theorem dX9_foresee_60 : decode cX9_foresee 60 = .ok (.invokevirtual 165, 3) := by decide +kernel
theorem dX9_foresee_63 : decode cX9_foresee 63 = .ok (.iinc 3 1, 3) := by decide +kernel
theorem dX9_foresee_66 : decode cX9_foresee 66 = .ok (.goto (-45), 3) := by decide +kernel
theorem dX9_foresee_69 : decode cX9_foresee 69 = .ok (.return_, 1) := by decide +kernel
theorem dX9_isFirmWith_0 : decode cX9_isFirmWith 0 = .ok (.aload_n 0, 1) := by decide +kernel
theorem dX9_isFirmWith_1 : decode cX9_isFirmWith 1 = .ok (.getfield 24, 3) := by decide +kernel
theorem dX9_isFirmWith_4 : decode cX9_isFirmWith 4 = .ok (.getfield 100, 3) := by decide +kernel
theorem dX9_isFirmWith_7 : decode cX9_isFirmWith 7 = .ok (.iload_n 2, 1) := by decide +kernel
theorem dX9_isFirmWith_8 : decode cX9_isFirmWith 8 = .ok (.aaload, 1) := by decide +kernel
theorem dX9_isFirmWith_9 : decode cX9_isFirmWith 9 = .ok (.astore 4, 2) := by decide +kernel
theorem dX9_isFirmWith_11 : decode cX9_isFirmWith 11 = .ok (.aload 4, 2) := by decide +kernel
theorem dX9_isFirmWith_13 : decode cX9_isFirmWith 13 = .ok (.invokevirtual 186, 3) := by decide +kernel
theorem dX9_isFirmWith_16 : decode cX9_isFirmWith 16 = .ok (.iload_n 1, 1) := by decide +kernel
theorem dX9_isFirmWith_17 : decode cX9_isFirmWith 17 = .ok (.iadd, 1) := by decide +kernel
theorem dX9_isFirmWith_18 : decode cX9_isFirmWith 18 = .ok (.istore 5, 2) := by decide +kernel
theorem dX9_isFirmWith_20 : decode cX9_isFirmWith 20 = .ok (.aload 4, 2) := by decide +kernel
theorem dX9_isFirmWith_22 : decode cX9_isFirmWith 22 = .ok (.getfield 104, 3) := by decide +kernel
theorem dX9_isFirmWith_25 : decode cX9_isFirmWith 25 = .ok (.istore 6, 2) := by decide +kernel
theorem dX9_isFirmWith_27 : decode cX9_isFirmWith 27 = .ok (.aload_n 0, 1) := by decide +kernel
theorem dX9_isFirmWith_28 : decode cX9_isFirmWith 28 = .ok (.getfield 24, 3) := by decide +kernel
theorem dX9_isFirmWith_31 : decode cX9_isFirmWith 31 = .ok (.iload_n 2, 1) := by decide +kernel
theorem dX9_isFirmWith_32 : decode cX9_isFirmWith 32 = .ok (.invokevirtual 244, 3) := by decide +kernel
theorem dX9_isFirmWith_35 : decode cX9_isFirmWith 35 = .ok (.istore 7, 2) := by decide +kernel
theorem dX9_isFirmWith_37 : decode cX9_isFirmWith 37 = .ok (.iconst 0, 1) := by decide +kernel
theorem dX9_isFirmWith_38 : decode cX9_isFirmWith 38 = .ok (.istore 8, 2) := by decide +kernel
theorem dX9_isFirmWith_40 : decode cX9_isFirmWith 40 = .ok (.iload 8, 2) := by decide +kernel
theorem dX9_isFirmWith_42 : decode cX9_isFirmWith 42 = .ok (.iload_n 3, 1) := by decide +kernel
theorem dX9_isFirmWith_43 : decode cX9_isFirmWith 43 = .ok (.if_icmp .ge 62, 3) := by decide +kernel
theorem dX9_isFirmWith_46 : decode cX9_isFirmWith 46 = .ok (.aload_n 0, 1) := by decide +kernel
theorem dX9_isFirmWith_47 : decode cX9_isFirmWith 47 = .ok (.getfield 28, 3) := by decide +kernel
theorem dX9_isFirmWith_50 : decode cX9_isFirmWith 50 = .ok (.aload_n 0, 1) := by decide +kernel
theorem dX9_isFirmWith_51 : decode cX9_isFirmWith 51 = .ok (.getfield 42, 3) := by decide +kernel
theorem dX9_isFirmWith_54 : decode cX9_isFirmWith 54 = .ok (.iload 8, 2) := by decide +kernel
theorem dX9_isFirmWith_56 : decode cX9_isFirmWith 56 = .ok (.iaload, 1) := by decide +kernel
theorem dX9_isFirmWith_57 : decode cX9_isFirmWith 57 = .ok (.iload 7, 2) := by decide +kernel
theorem dX9_isFirmWith_59 : decode cX9_isFirmWith 59 = .ok (.aload_n 0, 1) := by decide +kernel
theorem dX9_isFirmWith_60 : decode cX9_isFirmWith 60 = .ok (.getfield 45, 3) := by decide +kernel
theorem dX9_isFirmWith_63 : decode cX9_isFirmWith 63 = .ok (.iload 8, 2) := by decide +kernel
theorem dX9_isFirmWith_65 : decode cX9_isFirmWith 65 = .ok (.iaload, 1) := by decide +kernel
theorem dX9_isFirmWith_66 : decode cX9_isFirmWith 66 = .ok (.invokevirtual 247, 3) := by decide +kernel
theorem dX9_isFirmWith_69 : decode cX9_isFirmWith 69 = .ok (.aload_n 0, 1) := by decide +kernel
theorem dX9_isFirmWith_70 : decode cX9_isFirmWith 70 = .ok (.getfield 28, 3) := by decide +kernel
theorem dX9_isFirmWith_73 : decode cX9_isFirmWith 73 = .ok (.aload 4, 2) := by decide +kernel
theorem dX9_isFirmWith_75 : decode cX9_isFirmWith 75 = .ok (.iload 8, 2) := by decide +kernel
theorem dX9_isFirmWith_77 : decode cX9_isFirmWith 77 = .ok (.invokevirtual 251, 3) := by decide +kernel
theorem dX9_isFirmWith_80 : decode cX9_isFirmWith 80 = .ok (.iload 6, 2) := by decide +kernel
theorem dX9_isFirmWith_82 : decode cX9_isFirmWith 82 = .ok (.iload 5, 2) := by decide +kernel
theorem dX9_isFirmWith_84 : decode cX9_isFirmWith 84 = .ok (.iload 6, 2) := by decide +kernel
theorem dX9_isFirmWith_86 : decode cX9_isFirmWith 86 = .ok (.isub, 1) := by decide +kernel
theorem dX9_isFirmWith_87 : decode cX9_isFirmWith 87 = .ok (.invokevirtual 254, 3) := by decide +kernel
theorem dX9_isFirmWith_90 : decode cX9_isFirmWith 90 = .ok (.istore 6, 2) := by decide +kernel
theorem dX9_isFirmWith_92 : decode cX9_isFirmWith 92 = .ok (.iload 6, 2) := by decide +kernel
theorem dX9_isFirmWith_94 : decode cX9_isFirmWith 94 = .ok (.ifCond .ne 5, 3) := by decide +kernel
theorem dX9_isFirmWith_97 : decode cX9_isFirmWith 97 = .ok (.iconst 0, 1) := by decide +kernel
theorem dX9_isFirmWith_98 : decode cX9_isFirmWith 98 = .ok (.ireturn, 1) := by decide +kernel
theorem dX9_isFirmWith_99 : decode cX9_isFirmWith 99 = .ok (.iinc 8 1, 3) := by decide +kernel
theorem dX9_isFirmWith_102 : decode cX9_isFirmWith 102 = .ok (.goto (-62), 3) := by decide +kernel
theorem dX9_isFirmWith_105 : decode cX9_isFirmWith 105 = .ok (.iconst 1, 1) := by decide +kernel
theorem dX9_isFirmWith_106 : decode cX9_isFirmWith 106 = .ok (.ireturn, 1) := by decide +kernel
theorem dX9_doorWeight_0 : decode cX9_doorWeight 0 = .ok (.aload_n 0, 1) := by decide +kernel
theorem dX9_doorWeight_1 : decode cX9_doorWeight 1 = .ok (.getfield 24, 3) := by decide +kernel
theorem dX9_doorWeight_4 : decode cX9_doorWeight 4 = .ok (.getfield 100, 3) := by decide +kernel
theorem dX9_doorWeight_7 : decode cX9_doorWeight 7 = .ok (.iload_n 1, 1) := by decide +kernel
theorem dX9_doorWeight_8 : decode cX9_doorWeight 8 = .ok (.aaload, 1) := by decide +kernel
theorem dX9_doorWeight_9 : decode cX9_doorWeight 9 = .ok (.getfield 104, 3) := by decide +kernel
theorem dX9_doorWeight_12 : decode cX9_doorWeight 12 = .ok (.iconst 5, 1) := by decide +kernel
theorem dX9_doorWeight_13 : decode cX9_doorWeight 13 = .ok (.iadd, 1) := by decide +kernel
theorem dX9_doorWeight_14 : decode cX9_doorWeight 14 = .ok (.iconst 1, 1) := by decide +kernel
theorem dX9_doorWeight_15 : decode cX9_doorWeight 15 = .ok (.isub, 1) := by decide +kernel
theorem dX9_doorWeight_16 : decode cX9_doorWeight 16 = .ok (.iconst 5, 1) := by decide +kernel
theorem dX9_doorWeight_17 : decode cX9_doorWeight 17 = .ok (.idiv, 1) := by decide +kernel
theorem dX9_doorWeight_18 : decode cX9_doorWeight 18 = .ok (.bipush 100, 2) := by decide +kernel
theorem dX9_doorWeight_20 : decode cX9_doorWeight 20 = .ok (.imul, 1) := by decide +kernel
theorem dX9_doorWeight_21 : decode cX9_doorWeight 21 = .ok (.iconst 1, 1) := by decide +kernel
theorem dX9_doorWeight_22 : decode cX9_doorWeight 22 = .ok (.iadd, 1) := by decide +kernel
theorem dX9_doorWeight_23 : decode cX9_doorWeight 23 = .ok (.ireturn, 1) := by decide +kernel
theorem dX9_weightOf_0 : decode cX9_weightOf 0 = .ok (.iload_n 1, 1) := by decide +kernel
theorem dX9_weightOf_1 : decode cX9_weightOf 1 = .ok (.iconst (-1), 1) := by decide +kernel
theorem dX9_weightOf_2 : decode cX9_weightOf 2 = .ok (.if_icmp .ne 7, 3) := by decide +kernel
theorem dX9_weightOf_5 : decode cX9_weightOf 5 = .ok (.iconst 0, 1) := by decide +kernel
theorem dX9_weightOf_6 : decode cX9_weightOf 6 = .ok (.goto 9, 3) := by decide +kernel
theorem dX9_weightOf_9 : decode cX9_weightOf 9 = .ok (.aload_n 0, 1) := by decide +kernel
theorem dX9_weightOf_10 : decode cX9_weightOf 10 = .ok (.getfield 48, 3) := by decide +kernel
theorem dX9_weightOf_13 : decode cX9_weightOf 13 = .ok (.iload_n 1, 1) := by decide +kernel
theorem dX9_weightOf_14 : decode cX9_weightOf 14 = .ok (.iaload, 1) := by decide +kernel
theorem dX9_weightOf_15 : decode cX9_weightOf 15 = .ok (.ireturn, 1) := by decide +kernel
theorem dX9_weighWays_0 : decode cX9_weighWays 0 = .ok (.aload_n 0, 1) := by decide +kernel
theorem dX9_weighWays_1 : decode cX9_weighWays 1 = .ok (.getfield 48, 3) := by decide +kernel
theorem dX9_weighWays_4 : decode cX9_weighWays 4 = .ok (.iconst (-1), 1) := by decide +kernel
theorem dX9_weighWays_5 : decode cX9_weighWays 5 = .ok (.invokestatic 226, 3) := by decide +kernel
theorem dX9_weighWays_8 : decode cX9_weighWays 8 = .ok (.iconst 0, 1) := by decide +kernel
theorem dX9_weighWays_9 : decode cX9_weighWays 9 = .ok (.istore_n 1, 1) := by decide +kernel
theorem dX9_weighWays_10 : decode cX9_weighWays 10 = .ok (.iload_n 1, 1) := by decide +kernel
theorem dX9_weighWays_11 : decode cX9_weighWays 11 = .ok (.aload_n 0, 1) := by decide +kernel
theorem dX9_weighWays_12 : decode cX9_weighWays 12 = .ok (.getfield 24, 3) := by decide +kernel
theorem dX9_weighWays_15 : decode cX9_weighWays 15 = .ok (.getfield 75, 3) := by decide +kernel
theorem dX9_weighWays_18 : decode cX9_weighWays 18 = .ok (.getfield 76, 3) := by decide +kernel
theorem dX9_weighWays_21 : decode cX9_weighWays 21 = .ok (.if_icmp .ge 89, 3) := by decide +kernel
theorem dX9_weighWays_24 : decode cX9_weighWays 24 = .ok (.iconst 0, 1) := by decide +kernel
theorem dX9_weighWays_25 : decode cX9_weighWays 25 = .ok (.istore_n 2, 1) := by decide +kernel
theorem dX9_weighWays_26 : decode cX9_weighWays 26 = .ok (.iload_n 2, 1) := by decide +kernel
theorem dX9_weighWays_27 : decode cX9_weighWays 27 = .ok (.aload_n 0, 1) := by decide +kernel
theorem dX9_weighWays_28 : decode cX9_weighWays 28 = .ok (.getfield 24, 3) := by decide +kernel
theorem dX9_weighWays_31 : decode cX9_weighWays 31 = .ok (.getfield 75, 3) := by decide +kernel
theorem dX9_weighWays_34 : decode cX9_weighWays 34 = .ok (.getfield 97, 3) := by decide +kernel
theorem dX9_weighWays_37 : decode cX9_weighWays 37 = .ok (.if_icmp .ge 67, 3) := by decide +kernel
theorem dX9_weighWays_40 : decode cX9_weighWays 40 = .ok (.aload_n 0, 1) := by decide +kernel
theorem dX9_weighWays_41 : decode cX9_weighWays 41 = .ok (.iload_n 2, 1) := by decide +kernel
end
section
theorem dX9_weighWays_42 : decode cX9_weighWays 42 = .ok (.aload_n 0, 1) := by decide +kernel
theorem dX9_weighWays_43 : decode cX9_weighWays 43 = .ok (.getfield 24, 3) := by decide +kernel
theorem dX9_weighWays_46 : decode cX9_weighWays 46 = .ok (.getfield 75, 3) := by decide +kernel
theorem dX9_weighWays_49 : decode cX9_weighWays 49 = .ok (.getfield 115, 3) := by decide +kernel
theorem dX9_weighWays_52 : decode cX9_weighWays 52 = .ok (.iload_n 2, 1) := by decide +kernel
theorem dX9_weighWays_53 : decode cX9_weighWays 53 = .ok (.iaload, 1) := by decide +kernel
theorem dX9_weighWays_54 : decode cX9_weighWays 54 = .ok (.aload_n 0, 1) := by decide +kernel
theorem dX9_weighWays_55 : decode cX9_weighWays 55 = .ok (.getfield 24, 3) := by decide +kernel
theorem dX9_weighWays_58 : decode cX9_weighWays 58 = .ok (.getfield 75, 3) := by decide +kernel
theorem dX9_weighWays_61 : decode cX9_weighWays 61 = .ok (.getfield 118, 3) := by decide +kernel
theorem dX9_weighWays_64 : decode cX9_weighWays 64 = .ok (.iload_n 2, 1) := by decide +kernel
theorem dX9_weighWays_65 : decode cX9_weighWays 65 = .ok (.iaload, 1) := by decide +kernel
theorem dX9_weighWays_66 : decode cX9_weighWays 66 = .ok (.invokevirtual 258, 3) := by decide +kernel
theorem dX9_weighWays_69 : decode cX9_weighWays 69 = .ok (.aload_n 0, 1) := by decide +kernel
theorem dX9_weighWays_70 : decode cX9_weighWays 70 = .ok (.iload_n 2, 1) := by decide +kernel
theorem dX9_weighWays_71 : decode cX9_weighWays 71 = .ok (.aload_n 0, 1) := by decide +kernel
theorem dX9_weighWays_72 : decode cX9_weighWays 72 = .ok (.getfield 24, 3) := by decide +kernel
theorem dX9_weighWays_75 : decode cX9_weighWays 75 = .ok (.getfield 75, 3) := by decide +kernel
theorem dX9_weighWays_78 : decode cX9_weighWays 78 = .ok (.getfield 118, 3) := by decide +kernel
theorem dX9_weighWays_81 : decode cX9_weighWays 81 = .ok (.iload_n 2, 1) := by decide +kernel
theorem dX9_weighWays_82 : decode cX9_weighWays 82 = .ok (.iaload, 1) := by decide +kernel
theorem dX9_weighWays_83 : decode cX9_weighWays 83 = .ok (.aload_n 0, 1) := by decide +kernel
theorem dX9_weighWays_84 : decode cX9_weighWays 84 = .ok (.getfield 24, 3) := by decide +kernel
theorem dX9_weighWays_87 : decode cX9_weighWays 87 = .ok (.getfield 75, 3) := by decide +kernel
theorem dX9_weighWays_90 : decode cX9_weighWays 90 = .ok (.getfield 115, 3) := by decide +kernel
theorem dX9_weighWays_93 : decode cX9_weighWays 93 = .ok (.iload_n 2, 1) := by decide +kernel
theorem dX9_weighWays_94 : decode cX9_weighWays 94 = .ok (.iaload, 1) := by decide +kernel
theorem dX9_weighWays_95 : decode cX9_weighWays 95 = .ok (.invokevirtual 258, 3) := by decide +kernel
theorem dX9_weighWays_98 : decode cX9_weighWays 98 = .ok (.iinc 2 1, 3) := by decide +kernel
theorem dX9_weighWays_101 : decode cX9_weighWays 101 = .ok (.goto (-75), 3) := by decide +kernel
theorem dX9_weighWays_104 : decode cX9_weighWays 104 = .ok (.iinc 1 1, 3) := by decide +kernel
theorem dX9_weighWays_107 : decode cX9_weighWays 107 = .ok (.goto (-97), 3) := by decide +kernel
theorem dX9_weighWays_110 : decode cX9_weighWays 110 = .ok (.return_, 1) := by decide +kernel
theorem dX9_weighDoor_0 : decode cX9_weighDoor 0 = .ok (.iload_n 2, 1) := by decide +kernel
theorem dX9_weighDoor_1 : decode cX9_weighDoor 1 = .ok (.iconst (-1), 1) := by decide +kernel
theorem dX9_weighDoor_2 : decode cX9_weighDoor 2 = .ok (.if_icmp .eq 12, 3) := by decide +kernel
theorem dX9_weighDoor_5 : decode cX9_weighDoor 5 = .ok (.aload_n 0, 1) := by decide +kernel
theorem dX9_weighDoor_6 : decode cX9_weighDoor 6 = .ok (.iload_n 3, 1) := by decide +kernel
theorem dX9_weighDoor_7 : decode cX9_weighDoor 7 = .ok (.invokevirtual 261, 3) := by decide +kernel
theorem dX9_weighDoor_10 : decode cX9_weighDoor 10 = .ok (.iconst (-1), 1) := by decide +kernel
theorem dX9_weighDoor_11 : decode cX9_weighDoor 11 = .ok (.if_icmp .ne 4, 3) := by decide +kernel
theorem dX9_weighDoor_14 : decode cX9_weighDoor 14 = .ok (.return_, 1) := by decide +kernel
theorem dX9_weighDoor_15 : decode cX9_weighDoor 15 = .ok (.aload_n 0, 1) := by decide +kernel
theorem dX9_weighDoor_16 : decode cX9_weighDoor 16 = .ok (.iload_n 1, 1) := by decide +kernel
theorem dX9_weighDoor_17 : decode cX9_weighDoor 17 = .ok (.invokevirtual 264, 3) := by decide +kernel
theorem dX9_weighDoor_20 : decode cX9_weighDoor 20 = .ok (.aload_n 0, 1) := by decide +kernel
theorem dX9_weighDoor_21 : decode cX9_weighDoor 21 = .ok (.iload_n 3, 1) := by decide +kernel
theorem dX9_weighDoor_22 : decode cX9_weighDoor 22 = .ok (.invokevirtual 261, 3) := by decide +kernel
theorem dX9_weighDoor_25 : decode cX9_weighDoor 25 = .ok (.iadd, 1) := by decide +kernel
theorem dX9_weighDoor_26 : decode cX9_weighDoor 26 = .ok (.istore 4, 2) := by decide +kernel
theorem dX9_weighDoor_28 : decode cX9_weighDoor 28 = .ok (.aload_n 0, 1) := by decide +kernel
theorem dX9_weighDoor_29 : decode cX9_weighDoor 29 = .ok (.getfield 48, 3) := by decide +kernel
theorem dX9_weighDoor_32 : decode cX9_weighDoor 32 = .ok (.iload_n 2, 1) := by decide +kernel
theorem dX9_weighDoor_33 : decode cX9_weighDoor 33 = .ok (.iaload, 1) := by decide +kernel
theorem dX9_weighDoor_34 : decode cX9_weighDoor 34 = .ok (.iconst (-1), 1) := by decide +kernel
theorem dX9_weighDoor_35 : decode cX9_weighDoor 35 = .ok (.if_icmp .eq 14, 3) := by decide +kernel
theorem dX9_weighDoor_38 : decode cX9_weighDoor 38 = .ok (.iload 4, 2) := by decide +kernel
theorem dX9_weighDoor_40 : decode cX9_weighDoor 40 = .ok (.aload_n 0, 1) := by decide +kernel
theorem dX9_weighDoor_41 : decode cX9_weighDoor 41 = .ok (.getfield 48, 3) := by decide +kernel
theorem dX9_weighDoor_44 : decode cX9_weighDoor 44 = .ok (.iload_n 2, 1) := by decide +kernel
theorem dX9_weighDoor_45 : decode cX9_weighDoor 45 = .ok (.iaload, 1) := by decide +kernel
theorem dX9_weighDoor_46 : decode cX9_weighDoor 46 = .ok (.if_icmp .ge 11, 3) := by decide +kernel
theorem dX9_weighDoor_49 : decode cX9_weighDoor 49 = .ok (.aload_n 0, 1) := by decide +kernel
theorem dX9_weighDoor_50 : decode cX9_weighDoor 50 = .ok (.getfield 48, 3) := by decide +kernel
theorem dX9_weighDoor_53 : decode cX9_weighDoor 53 = .ok (.iload_n 2, 1) := by decide +kernel
theorem dX9_weighDoor_54 : decode cX9_weighDoor 54 = .ok (.iload 4, 2) := by decide +kernel
theorem dX9_weighDoor_56 : decode cX9_weighDoor 56 = .ok (.iastore, 1) := by decide +kernel
theorem dX9_weighDoor_57 : decode cX9_weighDoor 57 = .ok (.return_, 1) := by decide +kernel
theorem dX9_doorOfWay_0 : decode cX9_doorOfWay 0 = .ok (.iload_n 1, 1) := by decide +kernel
theorem dX9_doorOfWay_1 : decode cX9_doorOfWay 1 = .ok (.istore_n 3, 1) := by decide +kernel
theorem dX9_doorOfWay_2 : decode cX9_doorOfWay 2 = .ok (.iconst 0, 1) := by decide +kernel
theorem dX9_doorOfWay_3 : decode cX9_doorOfWay 3 = .ok (.istore 4, 2) := by decide +kernel
theorem dX9_doorOfWay_5 : decode cX9_doorOfWay 5 = .ok (.iload 4, 2) := by decide +kernel
theorem dX9_doorOfWay_7 : decode cX9_doorOfWay 7 = .ok (.iload_n 2, 1) := by decide +kernel
theorem dX9_doorOfWay_8 : decode cX9_doorOfWay 8 = .ok (.if_icmp .gt 50, 3) := by decide +kernel
theorem dX9_doorOfWay_11 : decode cX9_doorOfWay 11 = .ok (.iload_n 3, 1) := by decide +kernel
theorem dX9_doorOfWay_12 : decode cX9_doorOfWay 12 = .ok (.iconst (-1), 1) := by decide +kernel
theorem dX9_doorOfWay_13 : decode cX9_doorOfWay 13 = .ok (.if_icmp .eq 45, 3) := by decide +kernel
theorem dX9_doorOfWay_16 : decode cX9_doorOfWay 16 = .ok (.aload_n 0, 1) := by decide +kernel
theorem dX9_doorOfWay_17 : decode cX9_doorOfWay 17 = .ok (.iload_n 3, 1) := by decide +kernel
theorem dX9_doorOfWay_18 : decode cX9_doorOfWay 18 = .ok (.invokevirtual 267, 3) := by decide +kernel
theorem dX9_doorOfWay_21 : decode cX9_doorOfWay 21 = .ok (.istore 5, 2) := by decide +kernel
theorem dX9_doorOfWay_23 : decode cX9_doorOfWay 23 = .ok (.iload 5, 2) := by decide +kernel
theorem dX9_doorOfWay_25 : decode cX9_doorOfWay 25 = .ok (.iconst (-1), 1) := by decide +kernel
theorem dX9_doorOfWay_26 : decode cX9_doorOfWay 26 = .ok (.if_icmp .eq 9, 3) := by decide +kernel
theorem dX9_doorOfWay_29 : decode cX9_doorOfWay 29 = .ok (.iload 4, 2) := by decide +kernel
theorem dX9_doorOfWay_31 : decode cX9_doorOfWay 31 = .ok (.iload_n 2, 1) := by decide +kernel
theorem dX9_doorOfWay_32 : decode cX9_doorOfWay 32 = .ok (.if_icmp .ne 6, 3) := by decide +kernel
theorem dX9_doorOfWay_35 : decode cX9_doorOfWay 35 = .ok (.iload 5, 2) := by decide +kernel
theorem dX9_doorOfWay_37 : decode cX9_doorOfWay 37 = .ok (.ireturn, 1) := by decide +kernel
theorem dX9_doorOfWay_38 : decode cX9_doorOfWay 38 = .ok (.aload_n 0, 1) := by decide +kernel
theorem dX9_doorOfWay_39 : decode cX9_doorOfWay 39 = .ok (.getfield 24, 3) := by decide +kernel
theorem dX9_doorOfWay_42 : decode cX9_doorOfWay 42 = .ok (.getfield 75, 3) := by decide +kernel
theorem dX9_doorOfWay_45 : decode cX9_doorOfWay 45 = .ok (.iload 5, 2) := by decide +kernel
theorem dX9_doorOfWay_47 : decode cX9_doorOfWay 47 = .ok (.iload_n 3, 1) := by decide +kernel
theorem dX9_doorOfWay_48 : decode cX9_doorOfWay 48 = .ok (.invokevirtual 158, 3) := by decide +kernel
theorem dX9_doorOfWay_51 : decode cX9_doorOfWay 51 = .ok (.istore_n 3, 1) := by decide +kernel
theorem dX9_doorOfWay_52 : decode cX9_doorOfWay 52 = .ok (.iinc 4 1, 3) := by decide +kernel
theorem dX9_doorOfWay_55 : decode cX9_doorOfWay 55 = .ok (.goto (-50), 3) := by decide +kernel
theorem dX9_doorOfWay_58 : decode cX9_doorOfWay 58 = .ok (.iconst (-1), 1) := by decide +kernel
theorem dX9_doorOfWay_59 : decode cX9_doorOfWay 59 = .ok (.ireturn, 1) := by decide +kernel
theorem dX9_firstDoorOfWay_0 : decode cX9_firstDoorOfWay 0 = .ok (.iconst 0, 1) := by decide +kernel
theorem dX9_firstDoorOfWay_1 : decode cX9_firstDoorOfWay 1 = .ok (.istore_n 2, 1) := by decide +kernel
theorem dX9_firstDoorOfWay_2 : decode cX9_firstDoorOfWay 2 = .ok (.iload_n 2, 1) := by decide +kernel
theorem dX9_firstDoorOfWay_3 : decode cX9_firstDoorOfWay 3 = .ok (.aload_n 0, 1) := by decide +kernel
theorem dX9_firstDoorOfWay_4 : decode cX9_firstDoorOfWay 4 = .ok (.getfield 24, 3) := by decide +kernel
theorem dX9_firstDoorOfWay_7 : decode cX9_firstDoorOfWay 7 = .ok (.getfield 75, 3) := by decide +kernel
theorem dX9_firstDoorOfWay_10 : decode cX9_firstDoorOfWay 10 = .ok (.getfield 97, 3) := by decide +kernel
theorem dX9_firstDoorOfWay_13 : decode cX9_firstDoorOfWay 13 = .ok (.if_icmp .ge 59, 3) := by decide +kernel
theorem dX9_firstDoorOfWay_16 : decode cX9_firstDoorOfWay 16 = .ok (.aload_n 0, 1) := by decide +kernel
theorem dX9_firstDoorOfWay_17 : decode cX9_firstDoorOfWay 17 = .ok (.getfield 24, 3) := by decide +kernel
theorem dX9_firstDoorOfWay_20 : decode cX9_firstDoorOfWay 20 = .ok (.getfield 75, 3) := by decide +kernel
theorem dX9_firstDoorOfWay_23 : decode cX9_firstDoorOfWay 23 = .ok (.iload_n 2, 1) := by decide +kernel
theorem dX9_firstDoorOfWay_24 : decode cX9_firstDoorOfWay 24 = .ok (.iload_n 1, 1) := by decide +kernel
theorem dX9_firstDoorOfWay_25 : decode cX9_firstDoorOfWay 25 = .ok (.invokevirtual 158, 3) := by decide +kernel
theorem dX9_firstDoorOfWay_28 : decode cX9_firstDoorOfWay 28 = .ok (.istore_n 3, 1) := by decide +kernel
theorem dX9_firstDoorOfWay_29 : decode cX9_firstDoorOfWay 29 = .ok (.iload_n 3, 1) := by decide +kernel
theorem dX9_firstDoorOfWay_30 : decode cX9_firstDoorOfWay 30 = .ok (.bipush (-2), 2) := by decide +kernel
theorem dX9_firstDoorOfWay_32 : decode cX9_firstDoorOfWay 32 = .ok (.if_icmp .eq 34, 3) := by decide +kernel
theorem dX9_firstDoorOfWay_35 : decode cX9_firstDoorOfWay 35 = .ok (.aload_n 0, 1) := by decide +kernel
theorem dX9_firstDoorOfWay_36 : decode cX9_firstDoorOfWay 36 = .ok (.iload_n 3, 1) := by decide +kernel
theorem dX9_firstDoorOfWay_37 : decode cX9_firstDoorOfWay 37 = .ok (.invokevirtual 261, 3) := by decide +kernel
theorem dX9_firstDoorOfWay_40 : decode cX9_firstDoorOfWay 40 = .ok (.iconst (-1), 1) := by decide +kernel
theorem dX9_firstDoorOfWay_41 : decode cX9_firstDoorOfWay 41 = .ok (.if_icmp .eq 25, 3) := by decide +kernel
theorem dX9_firstDoorOfWay_44 : decode cX9_firstDoorOfWay 44 = .ok (.aload_n 0, 1) := by decide +kernel
theorem dX9_firstDoorOfWay_45 : decode cX9_firstDoorOfWay 45 = .ok (.iload_n 2, 1) := by decide +kernel
theorem dX9_firstDoorOfWay_46 : decode cX9_firstDoorOfWay 46 = .ok (.invokevirtual 264, 3) := by decide +kernel
theorem dX9_firstDoorOfWay_49 : decode cX9_firstDoorOfWay 49 = .ok (.aload_n 0, 1) := by decide +kernel
theorem dX9_firstDoorOfWay_50 : decode cX9_firstDoorOfWay 50 = .ok (.iload_n 3, 1) := by decide +kernel
theorem dX9_firstDoorOfWay_51 : decode cX9_firstDoorOfWay 51 = .ok (.invokevirtual 261, 3) := by decide +kernel
theorem dX9_firstDoorOfWay_54 : decode cX9_firstDoorOfWay 54 = .ok (.iadd, 1) := by decide +kernel
theorem dX9_firstDoorOfWay_55 : decode cX9_firstDoorOfWay 55 = .ok (.aload_n 0, 1) := by decide +kernel
theorem dX9_firstDoorOfWay_56 : decode cX9_firstDoorOfWay 56 = .ok (.getfield 48, 3) := by decide +kernel
theorem dX9_firstDoorOfWay_59 : decode cX9_firstDoorOfWay 59 = .ok (.iload_n 1, 1) := by decide +kernel
theorem dX9_firstDoorOfWay_60 : decode cX9_firstDoorOfWay 60 = .ok (.iaload, 1) := by decide +kernel
theorem dX9_firstDoorOfWay_61 : decode cX9_firstDoorOfWay 61 = .ok (.if_icmp .ne 5, 3) := by decide +kernel
theorem dX9_firstDoorOfWay_64 : decode cX9_firstDoorOfWay 64 = .ok (.iload_n 2, 1) := by decide +kernel
theorem dX9_firstDoorOfWay_65 : decode cX9_firstDoorOfWay 65 = .ok (.ireturn, 1) := by decide +kernel
theorem dX9_firstDoorOfWay_66 : decode cX9_firstDoorOfWay 66 = .ok (.iinc 2 1, 3) := by decide +kernel
theorem dX9_firstDoorOfWay_69 : decode cX9_firstDoorOfWay 69 = .ok (.goto (-67), 3) := by decide +kernel
theorem dX9_firstDoorOfWay_72 : decode cX9_firstDoorOfWay 72 = .ok (.iconst (-1), 1) := by decide +kernel
theorem dX9_firstDoorOfWay_73 : decode cX9_firstDoorOfWay 73 = .ok (.ireturn, 1) := by decide +kernel
theorem dX10_init_0 : decode cX10_init 0 = .ok (.aload_n 0, 1) := by decide +kernel
theorem dX10_init_1 : decode cX10_init 1 = .ok (.invokespecial 1, 3) := by decide +kernel
theorem dX10_init_4 : decode cX10_init 4 = .ok (.aload_n 0, 1) := by decide +kernel
theorem dX10_init_5 : decode cX10_init 5 = .ok (.sipush 1000, 3) := by decide +kernel
theorem dX10_init_8 : decode cX10_init 8 = .ok (.newarray .int, 2) := by decide +kernel
theorem dX10_init_10 : decode cX10_init 10 = .ok (.putfield 7, 3) := by decide +kernel
theorem dX10_init_13 : decode cX10_init 13 = .ok (.aload_n 0, 1) := by decide +kernel
theorem dX10_init_14 : decode cX10_init 14 = .ok (.bipush 6, 2) := by decide +kernel
theorem dX10_init_16 : decode cX10_init 16 = .ok (.newarray .int, 2) := by decide +kernel
theorem dX10_init_18 : decode cX10_init 18 = .ok (.putfield 13, 3) := by decide +kernel
theorem dX10_init_21 : decode cX10_init 21 = .ok (.aload_n 0, 1) := by decide +kernel
theorem dX10_init_22 : decode cX10_init 22 = .ok (.bipush 6, 2) := by decide +kernel
theorem dX10_init_24 : decode cX10_init 24 = .ok (.newarray .int, 2) := by decide +kernel
theorem dX10_init_26 : decode cX10_init 26 = .ok (.putfield 16, 3) := by decide +kernel
theorem dX10_init_29 : decode cX10_init 29 = .ok (.aload_n 0, 1) := by decide +kernel
theorem dX10_init_30 : decode cX10_init 30 = .ok (.bipush 6, 2) := by decide +kernel
theorem dX10_init_32 : decode cX10_init 32 = .ok (.newarray .int, 2) := by decide +kernel
theorem dX10_init_34 : decode cX10_init 34 = .ok (.putfield 19, 3) := by decide +kernel
theorem dX10_init_37 : decode cX10_init 37 = .ok (.aload_n 0, 1) := by decide +kernel
theorem dX10_init_38 : decode cX10_init 38 = .ok (.bipush 6, 2) := by decide +kernel
theorem dX10_init_40 : decode cX10_init 40 = .ok (.newarray .int, 2) := by decide +kernel
theorem dX10_init_42 : decode cX10_init 42 = .ok (.putfield 22, 3) := by decide +kernel
theorem dX10_init_45 : decode cX10_init 45 = .ok (.aload_n 0, 1) := by decide +kernel
theorem dX10_init_46 : decode cX10_init 46 = .ok (.bipush 6, 2) := by decide +kernel
theorem dX10_init_48 : decode cX10_init 48 = .ok (.newarray .int, 2) := by decide +kernel
theorem dX10_init_50 : decode cX10_init 50 = .ok (.putfield 25, 3) := by decide +kernel
theorem dX10_init_53 : decode cX10_init 53 = .ok (.aload_n 0, 1) := by decide +kernel
theorem dX10_init_54 : decode cX10_init 54 = .ok (.bipush 8, 2) := by decide +kernel
theorem dX10_init_56 : decode cX10_init 56 = .ok (.newarray .long, 2) := by decide +kernel
theorem dX10_init_58 : decode cX10_init 58 = .ok (.putfield 28, 3) := by decide +kernel
theorem dX10_init_61 : decode cX10_init 61 = .ok (.aload_n 0, 1) := by decide +kernel
theorem dX10_init_62 : decode cX10_init 62 = .ok (.bipush 6, 2) := by decide +kernel
theorem dX10_init_64 : decode cX10_init 64 = .ok (.newarray .long, 2) := by decide +kernel
theorem dX10_init_66 : decode cX10_init 66 = .ok (.putfield 32, 3) := by decide +kernel
theorem dX10_init_69 : decode cX10_init 69 = .ok (.aload_n 0, 1) := by decide +kernel
theorem dX10_init_70 : decode cX10_init 70 = .ok (.bipush 48, 2) := by decide +kernel
theorem dX10_init_72 : decode cX10_init 72 = .ok (.newarray .int, 2) := by decide +kernel
theorem dX10_init_74 : decode cX10_init 74 = .ok (.putfield 35, 3) := by decide +kernel
theorem dX10_init_77 : decode cX10_init 77 = .ok (.aload_n 0, 1) := by decide +kernel
theorem dX10_init_78 : decode cX10_init 78 = .ok (.bipush 60, 2) := by decide +kernel
theorem dX10_init_80 : decode cX10_init 80 = .ok (.newarray .int, 2) := by decide +kernel
theorem dX10_init_82 : decode cX10_init 82 = .ok (.putfield 38, 3) := by decide +kernel
theorem dX10_init_85 : decode cX10_init 85 = .ok (.aload_n 0, 1) := by decide +kernel
theorem dX10_init_86 : decode cX10_init 86 = .ok (.bipush 60, 2) := by decide +kernel
theorem dX10_init_88 : decode cX10_init 88 = .ok (.newarray .int, 2) := by decide +kernel
theorem dX10_init_90 : decode cX10_init 90 = .ok (.putfield 41, 3) := by decide +kernel
theorem dX10_init_93 : decode cX10_init 93 = .ok (.aload_n 0, 1) := by decide +kernel
theorem dX10_init_94 : decode cX10_init 94 = .ok (.bipush 60, 2) := by decide +kernel
theorem dX10_init_96 : decode cX10_init 96 = .ok (.newarray .int, 2) := by decide +kernel
theorem dX10_init_98 : decode cX10_init 98 = .ok (.putfield 44, 3) := by decide +kernel
theorem dX10_init_101 : decode cX10_init 101 = .ok (.aload_n 0, 1) := by decide +kernel
theorem dX10_init_102 : decode cX10_init 102 = .ok (.bipush 36, 2) := by decide +kernel
theorem dX10_init_104 : decode cX10_init 104 = .ok (.newarray .int, 2) := by decide +kernel
theorem dX10_init_106 : decode cX10_init 106 = .ok (.putfield 47, 3) := by decide +kernel
theorem dX10_init_109 : decode cX10_init 109 = .ok (.aload_n 0, 1) := by decide +kernel
theorem dX10_init_110 : decode cX10_init 110 = .ok (.bipush 36, 2) := by decide +kernel
theorem dX10_init_112 : decode cX10_init 112 = .ok (.newarray .int, 2) := by decide +kernel
theorem dX10_init_114 : decode cX10_init 114 = .ok (.putfield 50, 3) := by decide +kernel
theorem dX10_init_117 : decode cX10_init 117 = .ok (.aload_n 0, 1) := by decide +kernel
theorem dX10_init_118 : decode cX10_init 118 = .ok (.bipush 36, 2) := by decide +kernel
theorem dX10_init_120 : decode cX10_init 120 = .ok (.newarray .int, 2) := by decide +kernel
theorem dX10_init_122 : decode cX10_init 122 = .ok (.putfield 53, 3) := by decide +kernel
theorem dX10_init_125 : decode cX10_init 125 = .ok (.aload_n 0, 1) := by decide +kernel
theorem dX10_init_126 : decode cX10_init 126 = .ok (.bipush 12, 2) := by decide +kernel
theorem dX10_init_128 : decode cX10_init 128 = .ok (.newarray .int, 2) := by decide +kernel
theorem dX10_init_130 : decode cX10_init 130 = .ok (.putfield 56, 3) := by decide +kernel
theorem dX10_init_133 : decode cX10_init 133 = .ok (.aload_n 0, 1) := by decide +kernel
theorem dX10_init_134 : decode cX10_init 134 = .ok (.bipush 96, 2) := by decide +kernel
theorem dX10_init_136 : decode cX10_init 136 = .ok (.newarray .int, 2) := by decide +kernel
theorem dX10_init_138 : decode cX10_init 138 = .ok (.putfield 59, 3) := by decide +kernel
theorem dX10_init_141 : decode cX10_init 141 = .ok (.aload_n 0, 1) := by decide +kernel
theorem dX10_init_142 : decode cX10_init 142 = .ok (.bipush 12, 2) := by decide +kernel
theorem dX10_init_144 : decode cX10_init 144 = .ok (.newarray .int, 2) := by decide +kernel
theorem dX10_init_146 : decode cX10_init 146 = .ok (.putfield 62, 3) := by decide +kernel
theorem dX10_init_149 : decode cX10_init 149 = .ok (.aload_n 0, 1) := by decide +kernel
theorem dX10_init_150 : decode cX10_init 150 = .ok (.bipush 12, 2) := by decide +kernel
theorem dX10_init_152 : decode cX10_init 152 = .ok (.newarray .int, 2) := by decide +kernel
theorem dX10_init_154 : decode cX10_init 154 = .ok (.putfield 65, 3) := by decide +kernel
theorem dX10_init_157 : decode cX10_init 157 = .ok (.aload_n 0, 1) := by decide +kernel
theorem dX10_init_158 : decode cX10_init 158 = .ok (.sipush 6000, 3) := by decide +kernel
theorem dX10_init_161 : decode cX10_init 161 = .ok (.newarray .int, 2) := by decide +kernel
theorem dX10_init_163 : decode cX10_init 163 = .ok (.putfield 68, 3) := by decide +kernel
theorem dX10_init_166 : decode cX10_init 166 = .ok (.aload_n 0, 1) := by decide +kernel
theorem dX10_init_167 : decode cX10_init 167 = .ok (.bipush 7, 2) := by decide +kernel
theorem dX10_init_169 : decode cX10_init 169 = .ok (.newarray .int, 2) := by decide +kernel
theorem dX10_init_171 : decode cX10_init 171 = .ok (.putfield 71, 3) := by decide +kernel
theorem dX10_init_174 : decode cX10_init 174 = .ok (.aload_n 0, 1) := by decide +kernel
theorem dX10_init_175 : decode cX10_init 175 = .ok (.bipush 7, 2) := by decide +kernel
theorem dX10_init_177 : decode cX10_init 177 = .ok (.newarray .boolean, 2) := by decide +kernel
theorem dX10_init_179 : decode cX10_init 179 = .ok (.putfield 74, 3) := by decide +kernel
theorem dX10_init_182 : decode cX10_init 182 = .ok (.aload_n 0, 1) := by decide +kernel
theorem dX10_init_183 : decode cX10_init 183 = .ok (.bipush 7, 2) := by decide +kernel
theorem dX10_init_185 : decode cX10_init 185 = .ok (.newarray .int, 2) := by decide +kernel
theorem dX10_init_187 : decode cX10_init 187 = .ok (.putfield 78, 3) := by decide +kernel
theorem dX10_init_190 : decode cX10_init 190 = .ok (.aload_n 0, 1) := by decide +kernel
theorem dX10_init_191 : decode cX10_init 191 = .ok (.bipush 7, 2) := by decide +kernel
theorem dX10_init_193 : decode cX10_init 193 = .ok (.newarray .int, 2) := by decide +kernel
theorem dX10_init_195 : decode cX10_init 195 = .ok (.putfield 81, 3) := by decide +kernel
theorem dX10_init_198 : decode cX10_init 198 = .ok (.aload_n 0, 1) := by decide +kernel
theorem dX10_init_199 : decode cX10_init 199 = .ok (.bipush 7, 2) := by decide +kernel
theorem dX10_init_201 : decode cX10_init 201 = .ok (.newarray .int, 2) := by decide +kernel
theorem dX10_init_203 : decode cX10_init 203 = .ok (.putfield 84, 3) := by decide +kernel
theorem dX10_init_206 : decode cX10_init 206 = .ok (.aload_n 0, 1) := by decide +kernel
theorem dX10_init_207 : decode cX10_init 207 = .ok (.bipush 7, 2) := by decide +kernel
theorem dX10_init_209 : decode cX10_init 209 = .ok (.newarray .int, 2) := by decide +kernel
theorem dX10_init_211 : decode cX10_init 211 = .ok (.putfield 87, 3) := by decide +kernel
theorem dX10_init_214 : decode cX10_init 214 = .ok (.aload_n 0, 1) := by decide +kernel
theorem dX10_init_215 : decode cX10_init 215 = .ok (.bipush 7, 2) := by decide +kernel
theorem dX10_init_217 : decode cX10_init 217 = .ok (.newarray .int, 2) := by decide +kernel
theorem dX10_init_219 : decode cX10_init 219 = .ok (.putfield 90, 3) := by decide +kernel
theorem dX10_init_222 : decode cX10_init 222 = .ok (.aload_n 0, 1) := by decide +kernel
theorem dX10_init_223 : decode cX10_init 223 = .ok (.bipush 7, 2) := by decide +kernel
theorem dX10_init_225 : decode cX10_init 225 = .ok (.newarray .int, 2) := by decide +kernel
theorem dX10_init_227 : decode cX10_init 227 = .ok (.putfield 93, 3) := by decide +kernel
theorem dX10_init_230 : decode cX10_init 230 = .ok (.aload_n 0, 1) := by decide +kernel
theorem dX10_init_231 : decode cX10_init 231 = .ok (.bipush 7, 2) := by decide +kernel
theorem dX10_init_233 : decode cX10_init 233 = .ok (.newarray .int, 2) := by decide +kernel
theorem dX10_init_235 : decode cX10_init 235 = .ok (.putfield 96, 3) := by decide +kernel
theorem dX10_init_238 : decode cX10_init 238 = .ok (.aload_n 0, 1) := by decide +kernel
theorem dX10_init_239 : decode cX10_init 239 = .ok (.bipush 7, 2) := by decide +kernel
theorem dX10_init_241 : decode cX10_init 241 = .ok (.newarray .int, 2) := by decide +kernel
theorem dX10_init_243 : decode cX10_init 243 = .ok (.putfield 99, 3) := by decide +kernel
theorem dX10_init_246 : decode cX10_init 246 = .ok (.aload_n 0, 1) := by decide +kernel
theorem dX10_init_247 : decode cX10_init 247 = .ok (.bipush 7, 2) := by decide +kernel
theorem dX10_init_249 : decode cX10_init 249 = .ok (.newarray .int, 2) := by decide +kernel
theorem dX10_init_251 : decode cX10_init 251 = .ok (.putfield 102, 3) := by decide +kernel
theorem dX10_init_254 : decode cX10_init 254 = .ok (.aload_n 0, 1) := by decide +kernel
theorem dX10_init_255 : decode cX10_init 255 = .ok (.bipush 20, 2) := by decide +kernel
theorem dX10_init_257 : decode cX10_init 257 = .ok (.newarray .int, 2) := by decide +kernel
theorem dX10_init_259 : decode cX10_init 259 = .ok (.putfield 105, 3) := by decide +kernel
theorem dX10_init_262 : decode cX10_init 262 = .ok (.aload_n 0, 1) := by decide +kernel
theorem dX10_init_263 : decode cX10_init 263 = .ok (.bipush 96, 2) := by decide +kernel
theorem dX10_init_265 : decode cX10_init 265 = .ok (.newarray .int, 2) := by decide +kernel
theorem dX10_init_267 : decode cX10_init 267 = .ok (.putfield 108, 3) := by decide +kernel
theorem dX10_init_270 : decode cX10_init 270 = .ok (.aload_n 0, 1) := by decide +kernel
theorem dX10_init_271 : decode cX10_init 271 = .ok (.bipush 96, 2) := by decide +kernel
theorem dX10_init_273 : decode cX10_init 273 = .ok (.newarray .int, 2) := by decide +kernel
theorem dX10_init_275 : decode cX10_init 275 = .ok (.putfield 111, 3) := by decide +kernel
theorem dX10_init_278 : decode cX10_init 278 = .ok (.aload_n 0, 1) := by decide +kernel
theorem dX10_init_279 : decode cX10_init 279 = .ok (.sipush 384, 3) := by decide +kernel
theorem dX10_init_282 : decode cX10_init 282 = .ok (.newarray .int, 2) := by decide +kernel
theorem dX10_init_284 : decode cX10_init 284 = .ok (.putfield 114, 3) := by decide +kernel
theorem dX10_init_287 : decode cX10_init 287 = .ok (.aload_n 0, 1) := by decide +kernel
theorem dX10_init_288 : decode cX10_init 288 = .ok (.bipush 8, 2) := by decide +kernel
theorem dX10_init_290 : decode cX10_init 290 = .ok (.newarray .int, 2) := by decide +kernel
theorem dX10_init_292 : decode cX10_init 292 = .ok (.putfield 117, 3) := by decide +kernel
theorem dX10_init_295 : decode cX10_init 295 = .ok (.aload_n 0, 1) := by decide +kernel
theorem dX10_init_296 : decode cX10_init 296 = .ok (.bipush 10, 2) := by decide +kernel
theorem dX10_init_298 : decode cX10_init 298 = .ok (.newarray .int, 2) := by decide +kernel
theorem dX10_init_300 : decode cX10_init 300 = .ok (.putfield 120, 3) := by decide +kernel
theorem dX10_init_303 : decode cX10_init 303 = .ok (.aload_n 0, 1) := by decide +kernel
theorem dX10_init_304 : decode cX10_init 304 = .ok (.bipush 10, 2) := by decide +kernel
theorem dX10_init_306 : decode cX10_init 306 = .ok (.newarray .int, 2) := by decide +kernel
theorem dX10_init_308 : decode cX10_init 308 = .ok (.putfield 123, 3) := by decide +kernel
theorem dX10_init_311 : decode cX10_init 311 = .ok (.aload_n 0, 1) := by decide +kernel
theorem dX10_init_312 : decode cX10_init 312 = .ok (.bipush 8, 2) := by decide +kernel
theorem dX10_init_314 : decode cX10_init 314 = .ok (.newarray .int, 2) := by decide +kernel
theorem dX10_init_316 : decode cX10_init 316 = .ok (.putfield 126, 3) := by decide +kernel
theorem dX10_init_319 : decode cX10_init 319 = .ok (.aload_n 0, 1) := by decide +kernel
theorem dX10_init_320 : decode cX10_init 320 = .ok (.bipush 8, 2) := by decide +kernel
theorem dX10_init_322 : decode cX10_init 322 = .ok (.newarray .int, 2) := by decide +kernel
theorem dX10_init_324 : decode cX10_init 324 = .ok (.putfield 129, 3) := by decide +kernel
theorem dX10_init_327 : decode cX10_init 327 = .ok (.aload_n 0, 1) := by decide +kernel
theorem dX10_init_328 : decode cX10_init 328 = .ok (.iconst 4, 1) := by decide +kernel
theorem dX10_init_329 : decode cX10_init 329 = .ok (.newarray .boolean, 2) := by decide +kernel
theorem dX10_init_331 : decode cX10_init 331 = .ok (.putfield 132, 3) := by decide +kernel
theorem dX10_init_334 : decode cX10_init 334 = .ok (.return_, 1) := by decide +kernel
theorem dX10_thrown_0 : decode cX10_thrown 0 = .ok (.aload_n 0, 1) := by decide +kernel
theorem dX10_thrown_1 : decode cX10_thrown 1 = .ok (.getfield 135, 3) := by decide +kernel
theorem dX10_thrown_4 : decode cX10_thrown 4 = .ok (.ireturn, 1) := by decide +kernel
theorem dX10_within_0 : decode cX10_within 0 = .ok (.iload_n 0, 1) := by decide +kernel
theorem dX10_within_1 : decode cX10_within 1 = .ok (.iload_n 1, 1) := by decide +kernel
theorem dX10_within_2 : decode cX10_within 2 = .ok (.if_icmp .lt 12, 3) := by decide +kernel
theorem dX10_within_5 : decode cX10_within 5 = .ok (.iload_n 0, 1) := by decide +kernel
theorem dX10_within_6 : decode cX10_within 6 = .ok (.iload_n 2, 1) := by decide +kernel
theorem dX10_within_7 : decode cX10_within 7 = .ok (.if_icmp .gt 7, 3) := by decide +kernel
theorem dX10_within_10 : decode cX10_within 10 = .ok (.iconst 1, 1) := by decide +kernel
theorem dX10_within_11 : decode cX10_within 11 = .ok (.goto 4, 3) := by decide +kernel
theorem dX10_within_14 : decode cX10_within 14 = .ok (.iconst 0, 1) := by decide +kernel
theorem dX10_within_15 : decode cX10_within 15 = .ok (.ireturn, 1) := by decide +kernel
theorem dX10_between_0 : decode cX10_between 0 = .ok (.iload_n 0, 1) := by decide +kernel
theorem dX10_between_1 : decode cX10_between 1 = .ok (.iload_n 1, 1) := by decide +kernel
theorem dX10_between_2 : decode cX10_between 2 = .ok (.if_icmp .ge 7, 3) := by decide +kernel
theorem dX10_between_5 : decode cX10_between 5 = .ok (.iload_n 1, 1) := by decide +kernel
theorem dX10_between_6 : decode cX10_between 6 = .ok (.goto 13, 3) := by decide +kernel
theorem dX10_between_9 : decode cX10_between 9 = .ok (.iload_n 0, 1) := by decide +kernel
theorem dX10_between_10 : decode cX10_between 10 = .ok (.iload_n 2, 1) := by decide +kernel
theorem dX10_between_11 : decode cX10_between 11 = .ok (.if_icmp .le 7, 3) := by decide +kernel
theorem dX10_between_14 : decode cX10_between 14 = .ok (.iload_n 2, 1) := by decide +kernel
theorem dX10_between_15 : decode cX10_between 15 = .ok (.goto 4, 3) := by decide +kernel
theorem dX10_between_18 : decode cX10_between 18 = .ok (.iload_n 0, 1) := by decide +kernel
theorem dX10_between_19 : decode cX10_between 19 = .ok (.ireturn, 1) := by decide +kernel
theorem dX10_gcd_0 : decode cX10_gcd 0 = .ok (.iload_n 0, 1) := by decide +kernel
theorem dX10_gcd_1 : decode cX10_gcd 1 = .ok (.istore_n 2, 1) := by decide +kernel
theorem dX10_gcd_2 : decode cX10_gcd 2 = .ok (.iload_n 1, 1) := by decide +kernel
theorem dX10_gcd_3 : decode cX10_gcd 3 = .ok (.istore_n 3, 1) := by decide +kernel
theorem dX10_gcd_4 : decode cX10_gcd 4 = .ok (.iload_n 3, 1) := by decide +kernel
theorem dX10_gcd_5 : decode cX10_gcd 5 = .ok (.ifCond .eq 16, 3) := by decide +kernel
theorem dX10_gcd_8 : decode cX10_gcd 8 = .ok (.iload_n 2, 1) := by decide +kernel
theorem dX10_gcd_9 : decode cX10_gcd 9 = .ok (.iload_n 3, 1) := by decide +kernel
theorem dX10_gcd_10 : decode cX10_gcd 10 = .ok (.irem, 1) := by decide +kernel
theorem dX10_gcd_11 : decode cX10_gcd 11 = .ok (.istore 4, 2) := by decide +kernel
theorem dX10_gcd_13 : decode cX10_gcd 13 = .ok (.iload_n 3, 1) := by decide +kernel
theorem dX10_gcd_14 : decode cX10_gcd 14 = .ok (.istore_n 2, 1) := by decide +kernel
theorem dX10_gcd_15 : decode cX10_gcd 15 = .ok (.iload 4, 2) := by decide +kernel
theorem dX10_gcd_17 : decode cX10_gcd 17 = .ok (.istore_n 3, 1) := by decide +kernel
theorem dX10_gcd_18 : decode cX10_gcd 18 = .ok (.goto (-14), 3) := by decide +kernel
theorem dX10_gcd_21 : decode cX10_gcd 21 = .ok (.iload_n 2, 1) := by decide +kernel
theorem dX10_gcd_22 : decode cX10_gcd 22 = .ok (.ireturn, 1) := by decide +kernel
theorem dX10_feed_0 : decode cX10_feed 0 = .ok (.aload_n 0, 1) := by decide +kernel
theorem dX10_feed_1 : decode cX10_feed 1 = .ok (.iconst 0, 1) := by decide +kernel
theorem dX10_feed_2 : decode cX10_feed 2 = .ok (.putfield 135, 3) := by decide +kernel
theorem dX10_feed_5 : decode cX10_feed 5 = .ok (.iconst 0, 1) := by decide +kernel
theorem dX10_feed_6 : decode cX10_feed 6 = .ok (.istore 7, 2) := by decide +kernel
theorem dX10_feed_8 : decode cX10_feed 8 = .ok (.iload 7, 2) := by decide +kernel
theorem dX10_feed_10 : decode cX10_feed 10 = .ok (.bipush 24, 2) := by decide +kernel
theorem dX10_feed_12 : decode cX10_feed 12 = .ok (.if_icmp .ge 108, 3) := by decide +kernel
theorem dX10_feed_15 : decode cX10_feed 15 = .ok (.iload 7, 2) := by decide +kernel
theorem dX10_feed_17 : decode cX10_feed 17 = .ok (.bipush 8, 2) := by decide +kernel
theorem dX10_feed_19 : decode cX10_feed 19 = .ok (.if_icmp .ge 7, 3) := by decide +kernel
theorem dX10_feed_22 : decode cX10_feed 22 = .ok (.lload_n 1, 1) := by decide +kernel
theorem dX10_feed_23 : decode cX10_feed 23 = .ok (.goto 16, 3) := by decide +kernel
theorem dX10_feed_26 : decode cX10_feed 26 = .ok (.iload 7, 2) := by decide +kernel
theorem dX10_feed_28 : decode cX10_feed 28 = .ok (.bipush 16, 2) := by decide +kernel
theorem dX10_feed_30 : decode cX10_feed 30 = .ok (.if_icmp .ge 7, 3) := by decide +kernel
theorem dX10_feed_33 : decode cX10_feed 33 = .ok (.lload_n 3, 1) := by decide +kernel
theorem dX10_feed_34 : decode cX10_feed 34 = .ok (.goto 5, 3) := by decide +kernel
theorem dX10_feed_37 : decode cX10_feed 37 = .ok (.lload 5, 2) := by decide +kernel
theorem dX10_feed_39 : decode cX10_feed 39 = .ok (.lstore 8, 2) := by decide +kernel
theorem dX10_feed_41 : decode cX10_feed 41 = .ok (.lload 8, 2) := by decide +kernel
theorem dX10_feed_43 : decode cX10_feed 43 = .ok (.bipush 56, 2) := by decide +kernel
theorem dX10_feed_45 : decode cX10_feed 45 = .ok (.bipush 8, 2) := by decide +kernel
theorem dX10_feed_47 : decode cX10_feed 47 = .ok (.iload 7, 2) := by decide +kernel
theorem dX10_feed_49 : decode cX10_feed 49 = .ok (.bipush 7, 2) := by decide +kernel
theorem dX10_feed_51 : decode cX10_feed 51 = .ok (.iand, 1) := by decide +kernel
theorem dX10_feed_52 : decode cX10_feed 52 = .ok (.imul, 1) := by decide +kernel
theorem dX10_feed_53 : decode cX10_feed 53 = .ok (.isub, 1) := by decide +kernel
theorem dX10_feed_54 : decode cX10_feed 54 = .ok (.lushr, 1) := by decide +kernel
theorem dX10_feed_55 : decode cX10_feed 55 = .ok (.ldc2_w 139, 3) := by decide +kernel
theorem dX10_feed_58 : decode cX10_feed 58 = .ok (.land, 1) := by decide +kernel
theorem dX10_feed_59 : decode cX10_feed 59 = .ok (.l2i, 1) := by decide +kernel
theorem dX10_feed_60 : decode cX10_feed 60 = .ok (.istore 10, 2) := by decide +kernel
theorem dX10_feed_62 : decode cX10_feed 62 = .ok (.aload_n 0, 1) := by decide +kernel
theorem dX10_feed_63 : decode cX10_feed 63 = .ok (.getfield 141, 3) := by decide +kernel
theorem dX10_feed_66 : decode cX10_feed 66 = .ok (.sipush 1000, 3) := by decide +kernel
theorem dX10_feed_69 : decode cX10_feed 69 = .ok (.if_icmp .ge 45, 3) := by decide +kernel
theorem dX10_feed_72 : decode cX10_feed 72 = .ok (.iload 10, 2) := by decide +kernel
theorem dX10_feed_74 : decode cX10_feed 74 = .ok (.bipush 10, 2) := by decide +kernel
theorem dX10_feed_76 : decode cX10_feed 76 = .ok (.if_icmp .eq 17, 3) := by decide +kernel
theorem dX10_feed_79 : decode cX10_feed 79 = .ok (.iload 10, 2) := by decide +kernel
theorem dX10_feed_81 : decode cX10_feed 81 = .ok (.bipush 32, 2) := by decide +kernel
theorem dX10_feed_83 : decode cX10_feed 83 = .ok (.if_icmp .lt 31, 3) := by decide +kernel
theorem dX10_feed_86 : decode cX10_feed 86 = .ok (.iload 10, 2) := by decide +kernel
theorem dX10_feed_88 : decode cX10_feed 88 = .ok (.bipush 126, 2) := by decide +kernel
theorem dX10_feed_90 : decode cX10_feed 90 = .ok (.if_icmp .gt 24, 3) := by decide +kernel
theorem dX10_feed_93 : decode cX10_feed 93 = .ok (.aload_n 0, 1) := by decide +kernel
theorem dX10_feed_94 : decode cX10_feed 94 = .ok (.getfield 7, 3) := by decide +kernel
theorem dX10_feed_97 : decode cX10_feed 97 = .ok (.aload_n 0, 1) := by decide +kernel
theorem dX10_feed_98 : decode cX10_feed 98 = .ok (.getfield 141, 3) := by decide +kernel
theorem dX10_feed_101 : decode cX10_feed 101 = .ok (.iload 10, 2) := by decide +kernel
theorem dX10_feed_103 : decode cX10_feed 103 = .ok (.iastore, 1) := by decide +kernel
theorem dX10_feed_104 : decode cX10_feed 104 = .ok (.aload_n 0, 1) := by decide +kernel
theorem dX10_feed_105 : decode cX10_feed 105 = .ok (.dup, 1) := by decide +kernel
theorem dX10_feed_106 : decode cX10_feed 106 = .ok (.getfield 141, 3) := by decide +kernel
theorem dX10_feed_109 : decode cX10_feed 109 = .ok (.iconst 1, 1) := by decide +kernel
theorem dX10_feed_110 : decode cX10_feed 110 = .ok (.iadd, 1) := by decide +kernel
theorem dX10_feed_111 : decode cX10_feed 111 = .ok (.putfield 141, 3) := by decide +kernel
theorem dX10_feed_114 : decode cX10_feed 114 = .ok (.iinc 7 1, 3) := by decide +kernel
theorem dX10_feed_117 : decode cX10_feed 117 = .ok (.goto (-109), 3) := by decide +kernel
theorem dX10_feed_120 : decode cX10_feed 120 = .ok (.aload_n 0, 1) := by decide +kernel
theorem dX10_feed_121 : decode cX10_feed 121 = .ok (.getfield 141, 3) := by decide +kernel
theorem dX10_feed_124 : decode cX10_feed 124 = .ok (.ireturn, 1) := by decide +kernel
theorem dX10_signAt_0 : decode cX10_signAt 0 = .ok (.iload_n 1, 1) := by decide +kernel
theorem dX10_signAt_1 : decode cX10_signAt 1 = .ok (.aload_n 0, 1) := by decide +kernel
theorem dX10_signAt_2 : decode cX10_signAt 2 = .ok (.getfield 144, 3) := by decide +kernel
theorem dX10_signAt_5 : decode cX10_signAt 5 = .ok (.if_icmp .ge 12, 3) := by decide +kernel
theorem dX10_signAt_8 : decode cX10_signAt 8 = .ok (.aload_n 0, 1) := by decide +kernel
theorem dX10_signAt_9 : decode cX10_signAt 9 = .ok (.getfield 7, 3) := by decide +kernel
theorem dX10_signAt_12 : decode cX10_signAt 12 = .ok (.iload_n 1, 1) := by decide +kernel
theorem dX10_signAt_13 : decode cX10_signAt 13 = .ok (.iaload, 1) := by decide +kernel
theorem dX10_signAt_14 : decode cX10_signAt 14 = .ok (.goto 4, 3) := by decide +kernel
theorem dX10_signAt_17 : decode cX10_signAt 17 = .ok (.iconst 0, 1) := by decide +kernel
theorem dX10_signAt_18 : decode cX10_signAt 18 = .ok (.ireturn, 1) := by decide +kernel
theorem dX10_nextToken_0 : decode cX10_nextToken 0 = .ok (.aload_n 0, 1) := by decide +kernel
theorem dX10_nextToken_1 : decode cX10_nextToken 1 = .ok (.getfield 147, 3) := by decide +kernel
theorem dX10_nextToken_4 : decode cX10_nextToken 4 = .ok (.aload_n 0, 1) := by decide +kernel
theorem dX10_nextToken_5 : decode cX10_nextToken 5 = .ok (.getfield 144, 3) := by decide +kernel
theorem dX10_nextToken_8 : decode cX10_nextToken 8 = .ok (.if_icmp .ge 44, 3) := by decide +kernel
theorem dX10_nextToken_11 : decode cX10_nextToken 11 = .ok (.aload_n 0, 1) := by decide +kernel
theorem dX10_nextToken_12 : decode cX10_nextToken 12 = .ok (.getfield 7, 3) := by decide +kernel
theorem dX10_nextToken_15 : decode cX10_nextToken 15 = .ok (.aload_n 0, 1) := by decide +kernel
theorem dX10_nextToken_16 : decode cX10_nextToken 16 = .ok (.getfield 147, 3) := by decide +kernel
theorem dX10_nextToken_19 : decode cX10_nextToken 19 = .ok (.iaload, 1) := by decide +kernel
theorem dX10_nextToken_20 : decode cX10_nextToken 20 = .ok (.bipush 32, 2) := by decide +kernel
theorem dX10_nextToken_22 : decode cX10_nextToken 22 = .ok (.if_icmp .eq 17, 3) := by decide +kernel
theorem dX10_nextToken_25 : decode cX10_nextToken 25 = .ok (.aload_n 0, 1) := by decide +kernel
theorem dX10_nextToken_26 : decode cX10_nextToken 26 = .ok (.getfield 7, 3) := by decide +kernel
theorem dX10_nextToken_29 : decode cX10_nextToken 29 = .ok (.aload_n 0, 1) := by decide +kernel
theorem dX10_nextToken_30 : decode cX10_nextToken 30 = .ok (.getfield 147, 3) := by decide +kernel
theorem dX10_nextToken_33 : decode cX10_nextToken 33 = .ok (.iaload, 1) := by decide +kernel
theorem dX10_nextToken_34 : decode cX10_nextToken 34 = .ok (.bipush 10, 2) := by decide +kernel
theorem dX10_nextToken_36 : decode cX10_nextToken 36 = .ok (.if_icmp .ne 16, 3) := by decide +kernel
theorem dX10_nextToken_39 : decode cX10_nextToken 39 = .ok (.aload_n 0, 1) := by decide +kernel
theorem dX10_nextToken_40 : decode cX10_nextToken 40 = .ok (.dup, 1) := by decide +kernel
theorem dX10_nextToken_41 : decode cX10_nextToken 41 = .ok (.getfield 147, 3) := by decide +kernel
theorem dX10_nextToken_44 : decode cX10_nextToken 44 = .ok (.iconst 1, 1) := by decide +kernel
theorem dX10_nextToken_45 : decode cX10_nextToken 45 = .ok (.iadd, 1) := by decide +kernel
theorem dX10_nextToken_46 : decode cX10_nextToken 46 = .ok (.putfield 147, 3) := by decide +kernel
theorem dX10_nextToken_49 : decode cX10_nextToken 49 = .ok (.goto (-49), 3) := by decide +kernel
theorem dX10_nextToken_52 : decode cX10_nextToken 52 = .ok (.aload_n 0, 1) := by decide +kernel
theorem dX10_nextToken_53 : decode cX10_nextToken 53 = .ok (.aload_n 0, 1) := by decide +kernel
theorem dX10_nextToken_54 : decode cX10_nextToken 54 = .ok (.getfield 147, 3) := by decide +kernel
theorem dX10_nextToken_57 : decode cX10_nextToken 57 = .ok (.putfield 150, 3) := by decide +kernel
theorem dX10_nextToken_60 : decode cX10_nextToken 60 = .ok (.aload_n 0, 1) := by decide +kernel
theorem dX10_nextToken_61 : decode cX10_nextToken 61 = .ok (.lconst 0, 1) := by decide +kernel
theorem dX10_nextToken_62 : decode cX10_nextToken 62 = .ok (.putfield 153, 3) := by decide +kernel
theorem dX10_nextToken_65 : decode cX10_nextToken 65 = .ok (.aload_n 0, 1) := by decide +kernel
theorem dX10_nextToken_66 : decode cX10_nextToken 66 = .ok (.iconst 0, 1) := by decide +kernel
theorem dX10_nextToken_67 : decode cX10_nextToken 67 = .ok (.putfield 157, 3) := by decide +kernel
theorem dX10_nextToken_70 : decode cX10_nextToken 70 = .ok (.aload_n 0, 1) := by decide +kernel
theorem dX10_nextToken_71 : decode cX10_nextToken 71 = .ok (.getfield 147, 3) := by decide +kernel
theorem dX10_nextToken_74 : decode cX10_nextToken 74 = .ok (.aload_n 0, 1) := by decide +kernel
theorem dX10_nextToken_75 : decode cX10_nextToken 75 = .ok (.getfield 144, 3) := by decide +kernel
theorem dX10_nextToken_78 : decode cX10_nextToken 78 = .ok (.if_icmp .ne 9, 3) := by decide +kernel
theorem dX10_nextToken_81 : decode cX10_nextToken 81 = .ok (.aload_n 0, 1) := by decide +kernel
theorem dX10_nextToken_82 : decode cX10_nextToken 82 = .ok (.iconst 0, 1) := by decide +kernel
theorem dX10_nextToken_83 : decode cX10_nextToken 83 = .ok (.putfield 160, 3) := by decide +kernel
theorem dX10_nextToken_86 : decode cX10_nextToken 86 = .ok (.return_, 1) := by decide +kernel
theorem dX10_nextToken_87 : decode cX10_nextToken 87 = .ok (.aload_n 0, 1) := by decide +kernel
theorem dX10_nextToken_88 : decode cX10_nextToken 88 = .ok (.getfield 7, 3) := by decide +kernel
theorem dX10_nextToken_91 : decode cX10_nextToken 91 = .ok (.aload_n 0, 1) := by decide +kernel
theorem dX10_nextToken_92 : decode cX10_nextToken 92 = .ok (.getfield 147, 3) := by decide +kernel
theorem dX10_nextToken_95 : decode cX10_nextToken 95 = .ok (.iaload, 1) := by decide +kernel
theorem dX10_nextToken_96 : decode cX10_nextToken 96 = .ok (.istore_n 1, 1) := by decide +kernel
theorem dX10_nextToken_97 : decode cX10_nextToken 97 = .ok (.iload_n 1, 1) := by decide +kernel
theorem dX10_nextToken_98 : decode cX10_nextToken 98 = .ok (.bipush 97, 2) := by decide +kernel
theorem dX10_nextToken_100 : decode cX10_nextToken 100 = .ok (.if_icmp .lt 112, 3) := by decide +kernel
theorem dX10_nextToken_103 : decode cX10_nextToken 103 = .ok (.iload_n 1, 1) := by decide +kernel
theorem dX10_nextToken_104 : decode cX10_nextToken 104 = .ok (.bipush 122, 2) := by decide +kernel
theorem dX10_nextToken_106 : decode cX10_nextToken 106 = .ok (.if_icmp .gt 106, 3) := by decide +kernel
theorem dX10_nextToken_109 : decode cX10_nextToken 109 = .ok (.aload_n 0, 1) := by decide +kernel
theorem dX10_nextToken_110 : decode cX10_nextToken 110 = .ok (.aload_n 0, 1) := by decide +kernel
theorem dX10_nextToken_111 : decode cX10_nextToken 111 = .ok (.getfield 147, 3) := by decide +kernel
theorem dX10_nextToken_114 : decode cX10_nextToken 114 = .ok (.invokevirtual 163, 3) := by decide +kernel
theorem dX10_nextToken_117 : decode cX10_nextToken 117 = .ok (.bipush 97, 2) := by decide +kernel
theorem dX10_nextToken_119 : decode cX10_nextToken 119 = .ok (.if_icmp .lt 69, 3) := by decide +kernel
theorem dX10_nextToken_122 : decode cX10_nextToken 122 = .ok (.aload_n 0, 1) := by decide +kernel
theorem dX10_nextToken_123 : decode cX10_nextToken 123 = .ok (.aload_n 0, 1) := by decide +kernel
theorem dX10_nextToken_124 : decode cX10_nextToken 124 = .ok (.getfield 147, 3) := by decide +kernel
theorem dX10_nextToken_127 : decode cX10_nextToken 127 = .ok (.invokevirtual 163, 3) := by decide +kernel
theorem dX10_nextToken_130 : decode cX10_nextToken 130 = .ok (.bipush 122, 2) := by decide +kernel
theorem dX10_nextToken_132 : decode cX10_nextToken 132 = .ok (.if_icmp .gt 56, 3) := by decide +kernel
theorem dX10_nextToken_135 : decode cX10_nextToken 135 = .ok (.aload_n 0, 1) := by decide +kernel
theorem dX10_nextToken_136 : decode cX10_nextToken 136 = .ok (.getfield 147, 3) := by decide +kernel
theorem dX10_nextToken_139 : decode cX10_nextToken 139 = .ok (.aload_n 0, 1) := by decide +kernel
theorem dX10_nextToken_140 : decode cX10_nextToken 140 = .ok (.getfield 150, 3) := by decide +kernel
theorem dX10_nextToken_143 : decode cX10_nextToken 143 = .ok (.isub, 1) := by decide +kernel
theorem dX10_nextToken_144 : decode cX10_nextToken 144 = .ok (.bipush 8, 2) := by decide +kernel
theorem dX10_nextToken_146 : decode cX10_nextToken 146 = .ok (.if_icmp .ge 29, 3) := by decide +kernel
theorem dX10_nextToken_149 : decode cX10_nextToken 149 = .ok (.aload_n 0, 1) := by decide +kernel
theorem dX10_nextToken_150 : decode cX10_nextToken 150 = .ok (.aload_n 0, 1) := by decide +kernel
theorem dX10_nextToken_151 : decode cX10_nextToken 151 = .ok (.getfield 153, 3) := by decide +kernel
theorem dX10_nextToken_154 : decode cX10_nextToken 154 = .ok (.ldc2_w 167, 3) := by decide +kernel
theorem dX10_nextToken_157 : decode cX10_nextToken 157 = .ok (.lmul, 1) := by decide +kernel
theorem dX10_nextToken_158 : decode cX10_nextToken 158 = .ok (.aload_n 0, 1) := by decide +kernel
theorem dX10_nextToken_159 : decode cX10_nextToken 159 = .ok (.aload_n 0, 1) := by decide +kernel
theorem dX10_nextToken_160 : decode cX10_nextToken 160 = .ok (.getfield 147, 3) := by decide +kernel
theorem dX10_nextToken_163 : decode cX10_nextToken 163 = .ok (.invokevirtual 163, 3) := by decide +kernel
theorem dX10_nextToken_166 : decode cX10_nextToken 166 = .ok (.i2l, 1) := by decide +kernel
theorem dX10_nextToken_167 : decode cX10_nextToken 167 = .ok (.ladd, 1) := by decide +kernel
theorem dX10_nextToken_168 : decode cX10_nextToken 168 = .ok (.ldc2_w 169, 3) := by decide +kernel
theorem dX10_nextToken_171 : decode cX10_nextToken 171 = .ok (.lsub, 1) := by decide +kernel
theorem dX10_nextToken_172 : decode cX10_nextToken 172 = .ok (.putfield 153, 3) := by decide +kernel
theorem dX10_nextToken_175 : decode cX10_nextToken 175 = .ok (.aload_n 0, 1) := by decide +kernel
theorem dX10_nextToken_176 : decode cX10_nextToken 176 = .ok (.dup, 1) := by decide +kernel
theorem dX10_nextToken_177 : decode cX10_nextToken 177 = .ok (.getfield 147, 3) := by decide +kernel
theorem dX10_nextToken_180 : decode cX10_nextToken 180 = .ok (.iconst 1, 1) := by decide +kernel
theorem dX10_nextToken_181 : decode cX10_nextToken 181 = .ok (.iadd, 1) := by decide +kernel
theorem dX10_nextToken_182 : decode cX10_nextToken 182 = .ok (.putfield 147, 3) := by decide +kernel
theorem dX10_nextToken_185 : decode cX10_nextToken 185 = .ok (.goto (-76), 3) := by decide +kernel
theorem dX10_nextToken_188 : decode cX10_nextToken 188 = .ok (.aload_n 0, 1) := by decide +kernel
theorem dX10_nextToken_189 : decode cX10_nextToken 189 = .ok (.aload_n 0, 1) := by decide +kernel
theorem dX10_nextToken_190 : decode cX10_nextToken 190 = .ok (.getfield 147, 3) := by decide +kernel
theorem dX10_nextToken_193 : decode cX10_nextToken 193 = .ok (.aload_n 0, 1) := by decide +kernel
theorem dX10_nextToken_194 : decode cX10_nextToken 194 = .ok (.getfield 150, 3) := by decide +kernel
theorem dX10_nextToken_197 : decode cX10_nextToken 197 = .ok (.isub, 1) := by decide +kernel
theorem dX10_nextToken_198 : decode cX10_nextToken 198 = .ok (.bipush 8, 2) := by decide +kernel
theorem dX10_nextToken_200 : decode cX10_nextToken 200 = .ok (.if_icmp .le 7, 3) := by decide +kernel
theorem dX10_nextToken_203 : decode cX10_nextToken 203 = .ok (.iconst 4, 1) := by decide +kernel
theorem dX10_nextToken_204 : decode cX10_nextToken 204 = .ok (.goto 4, 3) := by decide +kernel
theorem dX10_nextToken_207 : decode cX10_nextToken 207 = .ok (.iconst 1, 1) := by decide +kernel
theorem dX10_nextToken_208 : decode cX10_nextToken 208 = .ok (.putfield 160, 3) := by decide +kernel
theorem dX10_nextToken_211 : decode cX10_nextToken 211 = .ok (.return_, 1) := by decide +kernel
theorem dX10_nextToken_212 : decode cX10_nextToken 212 = .ok (.iload_n 1, 1) := by decide +kernel
theorem dX10_nextToken_213 : decode cX10_nextToken 213 = .ok (.bipush 48, 2) := by decide +kernel
theorem dX10_nextToken_215 : decode cX10_nextToken 215 = .ok (.if_icmp .lt 107, 3) := by decide +kernel
theorem dX10_nextToken_218 : decode cX10_nextToken 218 = .ok (.iload_n 1, 1) := by decide +kernel
theorem dX10_nextToken_219 : decode cX10_nextToken 219 = .ok (.bipush 57, 2) := by decide +kernel
theorem dX10_nextToken_221 : decode cX10_nextToken 221 = .ok (.if_icmp .gt 101, 3) := by decide +kernel
theorem dX10_nextToken_224 : decode cX10_nextToken 224 = .ok (.aload_n 0, 1) := by decide +kernel
theorem dX10_nextToken_225 : decode cX10_nextToken 225 = .ok (.aload_n 0, 1) := by decide +kernel
theorem dX10_nextToken_226 : decode cX10_nextToken 226 = .ok (.getfield 147, 3) := by decide +kernel
theorem dX10_nextToken_229 : decode cX10_nextToken 229 = .ok (.invokevirtual 163, 3) := by decide +kernel
theorem dX10_nextToken_232 : decode cX10_nextToken 232 = .ok (.bipush 48, 2) := by decide +kernel
theorem dX10_nextToken_234 : decode cX10_nextToken 234 = .ok (.if_icmp .lt 65, 3) := by decide +kernel
theorem dX10_nextToken_237 : decode cX10_nextToken 237 = .ok (.aload_n 0, 1) := by decide +kernel
theorem dX10_nextToken_238 : decode cX10_nextToken 238 = .ok (.aload_n 0, 1) := by decide +kernel
theorem dX10_nextToken_239 : decode cX10_nextToken 239 = .ok (.getfield 147, 3) := by decide +kernel
theorem dX10_nextToken_242 : decode cX10_nextToken 242 = .ok (.invokevirtual 163, 3) := by decide +kernel
theorem dX10_nextToken_245 : decode cX10_nextToken 245 = .ok (.bipush 57, 2) := by decide +kernel
theorem dX10_nextToken_247 : decode cX10_nextToken 247 = .ok (.if_icmp .gt 52, 3) := by decide +kernel
theorem dX10_nextToken_250 : decode cX10_nextToken 250 = .ok (.aload_n 0, 1) := by decide +kernel
theorem dX10_nextToken_251 : decode cX10_nextToken 251 = .ok (.getfield 147, 3) := by decide +kernel
theorem dX10_nextToken_254 : decode cX10_nextToken 254 = .ok (.aload_n 0, 1) := by decide +kernel
theorem dX10_nextToken_255 : decode cX10_nextToken 255 = .ok (.getfield 150, 3) := by decide +kernel
theorem dX10_nextToken_258 : decode cX10_nextToken 258 = .ok (.isub, 1) := by decide +kernel
theorem dX10_nextToken_259 : decode cX10_nextToken 259 = .ok (.iconst 4, 1) := by decide +kernel
theorem dX10_nextToken_260 : decode cX10_nextToken 260 = .ok (.if_icmp .ge 26, 3) := by decide +kernel
theorem dX10_nextToken_263 : decode cX10_nextToken 263 = .ok (.aload_n 0, 1) := by decide +kernel
theorem dX10_nextToken_264 : decode cX10_nextToken 264 = .ok (.aload_n 0, 1) := by decide +kernel
theorem dX10_nextToken_265 : decode cX10_nextToken 265 = .ok (.getfield 157, 3) := by decide +kernel
theorem dX10_nextToken_268 : decode cX10_nextToken 268 = .ok (.bipush 10, 2) := by decide +kernel
theorem dX10_nextToken_270 : decode cX10_nextToken 270 = .ok (.imul, 1) := by decide +kernel
theorem dX10_nextToken_271 : decode cX10_nextToken 271 = .ok (.aload_n 0, 1) := by decide +kernel
theorem dX10_nextToken_272 : decode cX10_nextToken 272 = .ok (.aload_n 0, 1) := by decide +kernel
theorem dX10_nextToken_273 : decode cX10_nextToken 273 = .ok (.getfield 147, 3) := by decide +kernel
theorem dX10_nextToken_276 : decode cX10_nextToken 276 = .ok (.invokevirtual 163, 3) := by decide +kernel
theorem dX10_nextToken_279 : decode cX10_nextToken 279 = .ok (.iadd, 1) := by decide +kernel
theorem dX10_nextToken_280 : decode cX10_nextToken 280 = .ok (.bipush 48, 2) := by decide +kernel
theorem dX10_nextToken_282 : decode cX10_nextToken 282 = .ok (.isub, 1) := by decide +kernel
theorem dX10_nextToken_283 : decode cX10_nextToken 283 = .ok (.putfield 157, 3) := by decide +kernel
theorem dX10_nextToken_286 : decode cX10_nextToken 286 = .ok (.aload_n 0, 1) := by decide +kernel
theorem dX10_nextToken_287 : decode cX10_nextToken 287 = .ok (.dup, 1) := by decide +kernel
theorem dX10_nextToken_288 : decode cX10_nextToken 288 = .ok (.getfield 147, 3) := by decide +kernel
theorem dX10_nextToken_291 : decode cX10_nextToken 291 = .ok (.iconst 1, 1) := by decide +kernel
theorem dX10_nextToken_292 : decode cX10_nextToken 292 = .ok (.iadd, 1) := by decide +kernel
theorem dX10_nextToken_293 : decode cX10_nextToken 293 = .ok (.putfield 147, 3) := by decide +kernel
theorem dX10_nextToken_296 : decode cX10_nextToken 296 = .ok (.goto (-72), 3) := by decide +kernel
theorem dX10_nextToken_299 : decode cX10_nextToken 299 = .ok (.aload_n 0, 1) := by decide +kernel
theorem dX10_nextToken_300 : decode cX10_nextToken 300 = .ok (.aload_n 0, 1) := by decide +kernel
theorem dX10_nextToken_301 : decode cX10_nextToken 301 = .ok (.getfield 147, 3) := by decide +kernel
theorem dX10_nextToken_304 : decode cX10_nextToken 304 = .ok (.aload_n 0, 1) := by decide +kernel
theorem dX10_nextToken_305 : decode cX10_nextToken 305 = .ok (.getfield 150, 3) := by decide +kernel
theorem dX10_nextToken_308 : decode cX10_nextToken 308 = .ok (.isub, 1) := by decide +kernel
theorem dX10_nextToken_309 : decode cX10_nextToken 309 = .ok (.iconst 4, 1) := by decide +kernel
theorem dX10_nextToken_310 : decode cX10_nextToken 310 = .ok (.if_icmp .le 7, 3) := by decide +kernel
theorem dX10_nextToken_313 : decode cX10_nextToken 313 = .ok (.iconst 4, 1) := by decide +kernel
theorem dX10_nextToken_314 : decode cX10_nextToken 314 = .ok (.goto 4, 3) := by decide +kernel
theorem dX10_nextToken_317 : decode cX10_nextToken 317 = .ok (.iconst 2, 1) := by decide +kernel
theorem dX10_nextToken_318 : decode cX10_nextToken 318 = .ok (.putfield 160, 3) := by decide +kernel
theorem dX10_nextToken_321 : decode cX10_nextToken 321 = .ok (.return_, 1) := by decide +kernel
theorem dX10_nextToken_322 : decode cX10_nextToken 322 = .ok (.aload_n 0, 1) := by decide +kernel
theorem dX10_nextToken_323 : decode cX10_nextToken 323 = .ok (.dup, 1) := by decide +kernel
theorem dX10_nextToken_324 : decode cX10_nextToken 324 = .ok (.getfield 147, 3) := by decide +kernel
theorem dX10_nextToken_327 : decode cX10_nextToken 327 = .ok (.iconst 1, 1) := by decide +kernel
theorem dX10_nextToken_328 : decode cX10_nextToken 328 = .ok (.iadd, 1) := by decide +kernel
theorem dX10_nextToken_329 : decode cX10_nextToken 329 = .ok (.putfield 147, 3) := by decide +kernel
theorem dX10_nextToken_332 : decode cX10_nextToken 332 = .ok (.aload_n 0, 1) := by decide +kernel
theorem dX10_nextToken_333 : decode cX10_nextToken 333 = .ok (.iload_n 1, 1) := by decide +kernel
theorem dX10_nextToken_334 : decode cX10_nextToken 334 = .ok (.bipush 40, 2) := by decide +kernel
theorem dX10_nextToken_336 : decode cX10_nextToken 336 = .ok (.if_icmp .lt 9, 3) := by decide +kernel
theorem dX10_nextToken_339 : decode cX10_nextToken 339 = .ok (.iload_n 1, 1) := by decide +kernel
theorem dX10_nextToken_340 : decode cX10_nextToken 340 = .ok (.bipush 43, 2) := by decide +kernel
theorem dX10_nextToken_342 : decode cX10_nextToken 342 = .ok (.if_icmp .le 21, 3) := by decide +kernel
theorem dX10_nextToken_345 : decode cX10_nextToken 345 = .ok (.iload_n 1, 1) := by decide +kernel
theorem dX10_nextToken_346 : decode cX10_nextToken 346 = .ok (.bipush 45, 2) := by decide +kernel
theorem dX10_nextToken_348 : decode cX10_nextToken 348 = .ok (.if_icmp .eq 15, 3) := by decide +kernel
theorem dX10_nextToken_351 : decode cX10_nextToken 351 = .ok (.iload_n 1, 1) := by decide +kernel
theorem dX10_nextToken_352 : decode cX10_nextToken 352 = .ok (.bipush 59, 2) := by decide +kernel
theorem dX10_nextToken_354 : decode cX10_nextToken 354 = .ok (.if_icmp .lt 13, 3) := by decide +kernel
theorem dX10_nextToken_357 : decode cX10_nextToken 357 = .ok (.iload_n 1, 1) := by decide +kernel
theorem dX10_nextToken_358 : decode cX10_nextToken 358 = .ok (.bipush 61, 2) := by decide +kernel
theorem dX10_nextToken_360 : decode cX10_nextToken 360 = .ok (.if_icmp .gt 7, 3) := by decide +kernel
theorem dX10_nextToken_363 : decode cX10_nextToken 363 = .ok (.iconst 3, 1) := by decide +kernel
theorem dX10_nextToken_364 : decode cX10_nextToken 364 = .ok (.goto 4, 3) := by decide +kernel
theorem dX10_nextToken_367 : decode cX10_nextToken 367 = .ok (.iconst 4, 1) := by decide +kernel
theorem dX10_nextToken_368 : decode cX10_nextToken 368 = .ok (.putfield 160, 3) := by decide +kernel
theorem dX10_nextToken_371 : decode cX10_nextToken 371 = .ok (.return_, 1) := by decide +kernel
theorem dX10_isWord_0 : decode cX10_isWord 0 = .ok (.aload_n 0, 1) := by decide +kernel
theorem dX10_isWord_1 : decode cX10_isWord 1 = .ok (.getfield 160, 3) := by decide +kernel
theorem dX10_isWord_4 : decode cX10_isWord 4 = .ok (.iconst 1, 1) := by decide +kernel
theorem dX10_isWord_5 : decode cX10_isWord 5 = .ok (.if_icmp .ne 16, 3) := by decide +kernel
theorem dX10_isWord_8 : decode cX10_isWord 8 = .ok (.aload_n 0, 1) := by decide +kernel
theorem dX10_isWord_9 : decode cX10_isWord 9 = .ok (.getfield 153, 3) := by decide +kernel
theorem dX10_isWord_12 : decode cX10_isWord 12 = .ok (.lload_n 1, 1) := by decide +kernel
theorem dX10_isWord_13 : decode cX10_isWord 13 = .ok (.lcmp, 1) := by decide +kernel
theorem dX10_isWord_14 : decode cX10_isWord 14 = .ok (.ifCond .ne 7, 3) := by decide +kernel
theorem dX10_isWord_17 : decode cX10_isWord 17 = .ok (.iconst 1, 1) := by decide +kernel
theorem dX10_isWord_18 : decode cX10_isWord 18 = .ok (.goto 4, 3) := by decide +kernel
theorem dX10_isWord_21 : decode cX10_isWord 21 = .ok (.iconst 0, 1) := by decide +kernel
theorem dX10_isWord_22 : decode cX10_isWord 22 = .ok (.ireturn, 1) := by decide +kernel
theorem dX10_isSign_0 : decode cX10_isSign 0 = .ok (.aload_n 0, 1) := by decide +kernel
theorem dX10_isSign_1 : decode cX10_isSign 1 = .ok (.getfield 160, 3) := by decide +kernel
theorem dX10_isSign_4 : decode cX10_isSign 4 = .ok (.iconst 3, 1) := by decide +kernel
theorem dX10_isSign_5 : decode cX10_isSign 5 = .ok (.if_icmp .ne 20, 3) := by decide +kernel
theorem dX10_isSign_8 : decode cX10_isSign 8 = .ok (.aload_n 0, 1) := by decide +kernel
theorem dX10_isSign_9 : decode cX10_isSign 9 = .ok (.getfield 7, 3) := by decide +kernel
theorem dX10_isSign_12 : decode cX10_isSign 12 = .ok (.aload_n 0, 1) := by decide +kernel
theorem dX10_isSign_13 : decode cX10_isSign 13 = .ok (.getfield 150, 3) := by decide +kernel
theorem dX10_isSign_16 : decode cX10_isSign 16 = .ok (.iaload, 1) := by decide +kernel
theorem dX10_isSign_17 : decode cX10_isSign 17 = .ok (.iload_n 1, 1) := by decide +kernel
theorem dX10_isSign_18 : decode cX10_isSign 18 = .ok (.if_icmp .ne 7, 3) := by decide +kernel
theorem dX10_isSign_21 : decode cX10_isSign 21 = .ok (.iconst 1, 1) := by decide +kernel
theorem dX10_isSign_22 : decode cX10_isSign 22 = .ok (.goto 4, 3) := by decide +kernel
theorem dX10_isSign_25 : decode cX10_isSign 25 = .ok (.iconst 0, 1) := by decide +kernel
theorem dX10_isSign_26 : decode cX10_isSign 26 = .ok (.ireturn, 1) := by decide +kernel
theorem dX10_fails_0 : decode cX10_fails 0 = .ok (.aload_n 0, 1) := by decide +kernel
theorem dX10_fails_1 : decode cX10_fails 1 = .ok (.iload_n 1, 1) := by decide +kernel
theorem dX10_fails_2 : decode cX10_fails 2 = .ok (.bipush 16, 2) := by decide +kernel
theorem dX10_fails_4 : decode cX10_fails 4 = .ok (.aload_n 0, 1) := by decide +kernel
theorem dX10_fails_5 : decode cX10_fails 5 = .ok (.getfield 150, 3) := by decide +kernel
theorem dX10_fails_8 : decode cX10_fails 8 = .ok (.imul, 1) := by decide +kernel
theorem dX10_fails_9 : decode cX10_fails 9 = .ok (.iadd, 1) := by decide +kernel
theorem dX10_fails_10 : decode cX10_fails 10 = .ok (.putfield 171, 3) := by decide +kernel
theorem dX10_fails_13 : decode cX10_fails 13 = .ok (.iconst 0, 1) := by decide +kernel
theorem dX10_fails_14 : decode cX10_fails 14 = .ok (.ireturn, 1) := by decide +kernel
theorem dX10_puts_0 : decode cX10_puts 0 = .ok (.aload_n 0, 1) := by decide +kernel
theorem dX10_puts_1 : decode cX10_puts 1 = .ok (.getfield 68, 3) := by decide +kernel
theorem dX10_puts_4 : decode cX10_puts 4 = .ok (.aload_n 0, 1) := by decide +kernel
theorem dX10_puts_5 : decode cX10_puts 5 = .ok (.getfield 174, 3) := by decide +kernel
theorem dX10_puts_8 : decode cX10_puts 8 = .ok (.iload_n 1, 1) := by decide +kernel
theorem dX10_puts_9 : decode cX10_puts 9 = .ok (.iastore, 1) := by decide +kernel
theorem dX10_puts_10 : decode cX10_puts 10 = .ok (.aload_n 0, 1) := by decide +kernel
theorem dX10_puts_11 : decode cX10_puts 11 = .ok (.dup, 1) := by decide +kernel
theorem dX10_puts_12 : decode cX10_puts 12 = .ok (.getfield 174, 3) := by decide +kernel
theorem dX10_puts_15 : decode cX10_puts 15 = .ok (.iconst 1, 1) := by decide +kernel
theorem dX10_puts_16 : decode cX10_puts 16 = .ok (.iadd, 1) := by decide +kernel
theorem dX10_puts_17 : decode cX10_puts 17 = .ok (.putfield 174, 3) := by decide +kernel
theorem dX10_puts_20 : decode cX10_puts 20 = .ok (.return_, 1) := by decide +kernel
theorem dX10_fact_0 : decode cX10_fact 0 = .ok (.aload_n 0, 1) := by decide +kernel
theorem dX10_fact_1 : decode cX10_fact 1 = .ok (.getfield 160, 3) := by decide +kernel
theorem dX10_fact_4 : decode cX10_fact 4 = .ok (.iconst 1, 1) := by decide +kernel
theorem dX10_fact_5 : decode cX10_fact 5 = .ok (.if_icmp .eq 5, 3) := by decide +kernel
theorem dX10_fact_8 : decode cX10_fact 8 = .ok (.iconst 0, 1) := by decide +kernel
theorem dX10_fact_9 : decode cX10_fact 9 = .ok (.ireturn, 1) := by decide +kernel
theorem dX10_fact_10 : decode cX10_fact 10 = .ok (.aload_n 0, 1) := by decide +kernel
theorem dX10_fact_11 : decode cX10_fact 11 = .ok (.getfield 177, 3) := by decide +kernel
theorem dX10_fact_14 : decode cX10_fact 14 = .ok (.ifCond .eq 84, 3) := by decide +kernel
theorem dX10_fact_17 : decode cX10_fact 17 = .ok (.aload_n 0, 1) := by decide +kernel
theorem dX10_fact_18 : decode cX10_fact 18 = .ok (.getfield 153, 3) := by decide +kernel
theorem dX10_fact_21 : decode cX10_fact 21 = .ok (.ldc2_w 181, 3) := by decide +kernel
theorem dX10_fact_24 : decode cX10_fact 24 = .ok (.lcmp, 1) := by decide +kernel
theorem dX10_fact_25 : decode cX10_fact 25 = .ok (.ifCond .ne 5, 3) := by decide +kernel
theorem dX10_fact_28 : decode cX10_fact 28 = .ok (.iconst 1, 1) := by decide +kernel
theorem dX10_fact_29 : decode cX10_fact 29 = .ok (.ireturn, 1) := by decide +kernel
theorem dX10_fact_30 : decode cX10_fact 30 = .ok (.aload_n 0, 1) := by decide +kernel
theorem dX10_fact_31 : decode cX10_fact 31 = .ok (.getfield 153, 3) := by decide +kernel
theorem dX10_fact_34 : decode cX10_fact 34 = .ok (.ldc2_w 183, 3) := by decide +kernel
theorem dX10_fact_37 : decode cX10_fact 37 = .ok (.lcmp, 1) := by decide +kernel
theorem dX10_fact_38 : decode cX10_fact 38 = .ok (.ifCond .ne 5, 3) := by decide +kernel
theorem dX10_fact_41 : decode cX10_fact 41 = .ok (.iconst 2, 1) := by decide +kernel
theorem dX10_fact_42 : decode cX10_fact 42 = .ok (.ireturn, 1) := by decide +kernel
theorem dX10_fact_43 : decode cX10_fact 43 = .ok (.aload_n 0, 1) := by decide +kernel
theorem dX10_fact_44 : decode cX10_fact 44 = .ok (.getfield 153, 3) := by decide +kernel
theorem dX10_fact_47 : decode cX10_fact 47 = .ok (.ldc2_w 185, 3) := by decide +kernel
theorem dX10_fact_50 : decode cX10_fact 50 = .ok (.lcmp, 1) := by decide +kernel
theorem dX10_fact_51 : decode cX10_fact 51 = .ok (.ifCond .ne 5, 3) := by decide +kernel
theorem dX10_fact_54 : decode cX10_fact 54 = .ok (.iconst 3, 1) := by decide +kernel
theorem dX10_fact_55 : decode cX10_fact 55 = .ok (.ireturn, 1) := by decide +kernel
theorem dX10_fact_56 : decode cX10_fact 56 = .ok (.aload_n 0, 1) := by decide +kernel
theorem dX10_fact_57 : decode cX10_fact 57 = .ok (.getfield 153, 3) := by decide +kernel
theorem dX10_fact_60 : decode cX10_fact 60 = .ok (.ldc2_w 187, 3) := by decide +kernel
theorem dX10_fact_63 : decode cX10_fact 63 = .ok (.lcmp, 1) := by decide +kernel
theorem dX10_fact_64 : decode cX10_fact 64 = .ok (.ifCond .ne 5, 3) := by decide +kernel
theorem dX10_fact_67 : decode cX10_fact 67 = .ok (.iconst 4, 1) := by decide +kernel
theorem dX10_fact_68 : decode cX10_fact 68 = .ok (.ireturn, 1) := by decide +kernel
theorem dX10_fact_69 : decode cX10_fact 69 = .ok (.aload_n 0, 1) := by decide +kernel
theorem dX10_fact_70 : decode cX10_fact 70 = .ok (.getfield 153, 3) := by decide +kernel
theorem dX10_fact_73 : decode cX10_fact 73 = .ok (.ldc2_w 189, 3) := by decide +kernel
theorem dX10_fact_76 : decode cX10_fact 76 = .ok (.lcmp, 1) := by decide +kernel
theorem dX10_fact_77 : decode cX10_fact 77 = .ok (.ifCond .ne 5, 3) := by decide +kernel
theorem dX10_fact_80 : decode cX10_fact 80 = .ok (.iconst 5, 1) := by decide +kernel
theorem dX10_fact_81 : decode cX10_fact 81 = .ok (.ireturn, 1) := by decide +kernel
theorem dX10_fact_82 : decode cX10_fact 82 = .ok (.aload_n 0, 1) := by decide +kernel
theorem dX10_fact_83 : decode cX10_fact 83 = .ok (.getfield 153, 3) := by decide +kernel
theorem dX10_fact_86 : decode cX10_fact 86 = .ok (.ldc2_w 191, 3) := by decide +kernel
theorem dX10_fact_89 : decode cX10_fact 89 = .ok (.lcmp, 1) := by decide +kernel
theorem dX10_fact_90 : decode cX10_fact 90 = .ok (.ifCond .ne 6, 3) := by decide +kernel
theorem dX10_fact_93 : decode cX10_fact 93 = .ok (.bipush 6, 2) := by decide +kernel
theorem dX10_fact_95 : decode cX10_fact 95 = .ok (.ireturn, 1) := by decide +kernel
theorem dX10_fact_96 : decode cX10_fact 96 = .ok (.iconst 0, 1) := by decide +kernel
theorem dX10_fact_97 : decode cX10_fact 97 = .ok (.ireturn, 1) := by decide +kernel
theorem dX10_fact_98 : decode cX10_fact 98 = .ok (.aload_n 0, 1) := by decide +kernel
theorem dX10_fact_99 : decode cX10_fact 99 = .ok (.getfield 153, 3) := by decide +kernel
theorem dX10_fact_102 : decode cX10_fact 102 = .ok (.ldc2_w 193, 3) := by decide +kernel
theorem dX10_fact_105 : decode cX10_fact 105 = .ok (.lcmp, 1) := by decide +kernel
theorem dX10_fact_106 : decode cX10_fact 106 = .ok (.ifCond .ne 5, 3) := by decide +kernel
theorem dX10_fact_109 : decode cX10_fact 109 = .ok (.iconst 1, 1) := by decide +kernel
theorem dX10_fact_110 : decode cX10_fact 110 = .ok (.ireturn, 1) := by decide +kernel
theorem dX10_fact_111 : decode cX10_fact 111 = .ok (.aload_n 0, 1) := by decide +kernel
theorem dX10_fact_112 : decode cX10_fact 112 = .ok (.getfield 153, 3) := by decide +kernel
theorem dX10_fact_115 : decode cX10_fact 115 = .ok (.ldc2_w 195, 3) := by decide +kernel
theorem dX10_fact_118 : decode cX10_fact 118 = .ok (.lcmp, 1) := by decide +kernel
theorem dX10_fact_119 : decode cX10_fact 119 = .ok (.ifCond .ne 5, 3) := by decide +kernel
theorem dX10_fact_122 : decode cX10_fact 122 = .ok (.iconst 2, 1) := by decide +kernel
theorem dX10_fact_123 : decode cX10_fact 123 = .ok (.ireturn, 1) := by decide +kernel
theorem dX10_fact_124 : decode cX10_fact 124 = .ok (.aload_n 0, 1) := by decide +kernel
theorem dX10_fact_125 : decode cX10_fact 125 = .ok (.getfield 153, 3) := by decide +kernel
theorem dX10_fact_128 : decode cX10_fact 128 = .ok (.ldc2_w 197, 3) := by decide +kernel
theorem dX10_fact_131 : decode cX10_fact 131 = .ok (.lcmp, 1) := by decide +kernel
theorem dX10_fact_132 : decode cX10_fact 132 = .ok (.ifCond .ne 5, 3) := by decide +kernel
theorem dX10_fact_135 : decode cX10_fact 135 = .ok (.iconst 3, 1) := by decide +kernel
theorem dX10_fact_136 : decode cX10_fact 136 = .ok (.ireturn, 1) := by decide +kernel
theorem dX10_fact_137 : decode cX10_fact 137 = .ok (.iconst 0, 1) := by decide +kernel
theorem dX10_fact_138 : decode cX10_fact 138 = .ok (.ireturn, 1) := by decide +kernel
theorem dX10_reads_0 : decode cX10_reads 0 = .ok (.iconst 0, 1) := by decide +kernel
theorem dX10_reads_1 : decode cX10_reads 1 = .ok (.istore_n 1, 1) := by decide +kernel
theorem dX10_reads_2 : decode cX10_reads 2 = .ok (.iconst 1, 1) := by decide +kernel
theorem dX10_reads_3 : decode cX10_reads 3 = .ok (.istore_n 2, 1) := by decide +kernel
theorem dX10_reads_4 : decode cX10_reads 4 = .ok (.aload_n 0, 1) := by decide +kernel
theorem dX10_reads_5 : decode cX10_reads 5 = .ok (.getfield 74, 3) := by decide +kernel
theorem dX10_reads_8 : decode cX10_reads 8 = .ok (.iconst 0, 1) := by decide +kernel
theorem dX10_reads_9 : decode cX10_reads 9 = .ok (.iconst 0, 1) := by decide +kernel
theorem dX10_reads_10 : decode cX10_reads 10 = .ok (.bastore, 1) := by decide +kernel
theorem dX10_reads_11 : decode cX10_reads 11 = .ok (.iload_n 2, 1) := by decide +kernel
theorem dX10_reads_12 : decode cX10_reads 12 = .ok (.ifCond .eq 167, 3) := by decide +kernel
theorem dX10_reads_15 : decode cX10_reads 15 = .ok (.aload_n 0, 1) := by decide +kernel
theorem dX10_reads_16 : decode cX10_reads 16 = .ok (.invokevirtual 199, 3) := by decide +kernel
theorem dX10_reads_19 : decode cX10_reads 19 = .ok (.istore_n 3, 1) := by decide +kernel
theorem dX10_reads_20 : decode cX10_reads 20 = .ok (.aload_n 0, 1) := by decide +kernel
theorem dX10_reads_21 : decode cX10_reads 21 = .ok (.ldc2_w 203, 3) := by decide +kernel
theorem dX10_reads_24 : decode cX10_reads 24 = .ok (.invokevirtual 205, 3) := by decide +kernel
theorem dX10_reads_27 : decode cX10_reads 27 = .ok (.istore 4, 2) := by decide +kernel
theorem dX10_reads_29 : decode cX10_reads 29 = .ok (.aload_n 0, 1) := by decide +kernel
theorem dX10_reads_30 : decode cX10_reads 30 = .ok (.bipush 40, 2) := by decide +kernel
theorem dX10_reads_32 : decode cX10_reads 32 = .ok (.invokevirtual 209, 3) := by decide +kernel
theorem dX10_reads_35 : decode cX10_reads 35 = .ok (.istore 5, 2) := by decide +kernel
theorem dX10_reads_37 : decode cX10_reads 37 = .ok (.iload_n 3, 1) := by decide +kernel
theorem dX10_reads_38 : decode cX10_reads 38 = .ok (.ifCond .ne 27, 3) := by decide +kernel
theorem dX10_reads_41 : decode cX10_reads 41 = .ok (.iload 4, 2) := by decide +kernel
theorem dX10_reads_43 : decode cX10_reads 43 = .ok (.ifCond .ne 22, 3) := by decide +kernel
theorem dX10_reads_46 : decode cX10_reads 46 = .ok (.iload 5, 2) := by decide +kernel
theorem dX10_reads_48 : decode cX10_reads 48 = .ok (.ifCond .ne 17, 3) := by decide +kernel
theorem dX10_reads_51 : decode cX10_reads 51 = .ok (.aload_n 0, 1) := by decide +kernel
theorem dX10_reads_52 : decode cX10_reads 52 = .ok (.getfield 160, 3) := by decide +kernel
theorem dX10_reads_55 : decode cX10_reads 55 = .ok (.iconst 2, 1) := by decide +kernel
theorem dX10_reads_56 : decode cX10_reads 56 = .ok (.if_icmp .eq 9, 3) := by decide +kernel
theorem dX10_reads_59 : decode cX10_reads 59 = .ok (.aload_n 0, 1) := by decide +kernel
theorem dX10_reads_60 : decode cX10_reads 60 = .ok (.iconst 1, 1) := by decide +kernel
theorem dX10_reads_61 : decode cX10_reads 61 = .ok (.invokevirtual 213, 3) := by decide +kernel
theorem dX10_reads_64 : decode cX10_reads 64 = .ok (.ireturn, 1) := by decide +kernel
theorem dX10_reads_65 : decode cX10_reads 65 = .ok (.iload_n 1, 1) := by decide +kernel
theorem dX10_reads_66 : decode cX10_reads 66 = .ok (.iconst 5, 1) := by decide +kernel
theorem dX10_reads_67 : decode cX10_reads 67 = .ok (.if_icmp .ne 9, 3) := by decide +kernel
theorem dX10_reads_70 : decode cX10_reads 70 = .ok (.aload_n 0, 1) := by decide +kernel
theorem dX10_reads_71 : decode cX10_reads 71 = .ok (.iconst 5, 1) := by decide +kernel
theorem dX10_reads_72 : decode cX10_reads 72 = .ok (.invokevirtual 213, 3) := by decide +kernel
theorem dX10_reads_75 : decode cX10_reads 75 = .ok (.ireturn, 1) := by decide +kernel
theorem dX10_reads_76 : decode cX10_reads 76 = .ok (.iload 4, 2) := by decide +kernel
theorem dX10_reads_78 : decode cX10_reads 78 = .ok (.ifCond .ne 8, 3) := by decide +kernel
theorem dX10_reads_81 : decode cX10_reads 81 = .ok (.iload 5, 2) := by decide +kernel
theorem dX10_reads_83 : decode cX10_reads 83 = .ok (.ifCond .eq 48, 3) := by decide +kernel
theorem dX10_reads_86 : decode cX10_reads 86 = .ok (.aload_n 0, 1) := by decide +kernel
theorem dX10_reads_87 : decode cX10_reads 87 = .ok (.iload 4, 2) := by decide +kernel
theorem dX10_reads_89 : decode cX10_reads 89 = .ok (.ifCond .eq 8, 3) := by decide +kernel
theorem dX10_reads_92 : decode cX10_reads 92 = .ok (.bipush 30, 2) := by decide +kernel
theorem dX10_reads_94 : decode cX10_reads 94 = .ok (.goto 5, 3) := by decide +kernel
theorem dX10_reads_97 : decode cX10_reads 97 = .ok (.bipush 28, 2) := by decide +kernel
theorem dX10_reads_99 : decode cX10_reads 99 = .ok (.invokevirtual 216, 3) := by decide +kernel
theorem dX10_reads_102 : decode cX10_reads 102 = .ok (.iinc 1 1, 3) := by decide +kernel
theorem dX10_reads_105 : decode cX10_reads 105 = .ok (.aload_n 0, 1) := by decide +kernel
theorem dX10_reads_106 : decode cX10_reads 106 = .ok (.getfield 71, 3) := by decide +kernel
theorem dX10_reads_109 : decode cX10_reads 109 = .ok (.iload_n 1, 1) := by decide +kernel
theorem dX10_reads_110 : decode cX10_reads 110 = .ok (.iload 4, 2) := by decide +kernel
theorem dX10_reads_112 : decode cX10_reads 112 = .ok (.ifCond .eq 7, 3) := by decide +kernel
theorem dX10_reads_115 : decode cX10_reads 115 = .ok (.iconst 1, 1) := by decide +kernel
theorem dX10_reads_116 : decode cX10_reads 116 = .ok (.goto 4, 3) := by decide +kernel
theorem dX10_reads_119 : decode cX10_reads 119 = .ok (.iconst 2, 1) := by decide +kernel
theorem dX10_reads_120 : decode cX10_reads 120 = .ok (.iastore, 1) := by decide +kernel
theorem dX10_reads_121 : decode cX10_reads 121 = .ok (.aload_n 0, 1) := by decide +kernel
theorem dX10_reads_122 : decode cX10_reads 122 = .ok (.getfield 74, 3) := by decide +kernel
theorem dX10_reads_125 : decode cX10_reads 125 = .ok (.iload_n 1, 1) := by decide +kernel
theorem dX10_reads_126 : decode cX10_reads 126 = .ok (.iconst 0, 1) := by decide +kernel
theorem dX10_reads_127 : decode cX10_reads 127 = .ok (.bastore, 1) := by decide +kernel
theorem dX10_reads_128 : decode cX10_reads 128 = .ok (.goto 44, 3) := by decide +kernel
theorem dX10_reads_131 : decode cX10_reads 131 = .ok (.aload_n 0, 1) := by decide +kernel
theorem dX10_reads_132 : decode cX10_reads 132 = .ok (.iload_n 3, 1) := by decide +kernel
theorem dX10_reads_133 : decode cX10_reads 133 = .ok (.ifCond .le 7, 3) := by decide +kernel
theorem dX10_reads_136 : decode cX10_reads 136 = .ok (.iload_n 3, 1) := by decide +kernel
theorem dX10_reads_137 : decode cX10_reads 137 = .ok (.goto 10, 3) := by decide +kernel
theorem dX10_reads_140 : decode cX10_reads 140 = .ok (.bipush 100, 2) := by decide +kernel
theorem dX10_reads_142 : decode cX10_reads 142 = .ok (.aload_n 0, 1) := by decide +kernel
theorem dX10_reads_143 : decode cX10_reads 143 = .ok (.getfield 157, 3) := by decide +kernel
theorem dX10_reads_146 : decode cX10_reads 146 = .ok (.iadd, 1) := by decide +kernel
theorem dX10_reads_147 : decode cX10_reads 147 = .ok (.invokevirtual 216, 3) := by decide +kernel
theorem dX10_reads_150 : decode cX10_reads 150 = .ok (.iconst 0, 1) := by decide +kernel
theorem dX10_reads_151 : decode cX10_reads 151 = .ok (.istore_n 2, 1) := by decide +kernel
theorem dX10_reads_152 : decode cX10_reads 152 = .ok (.iload_n 1, 1) := by decide +kernel
theorem dX10_reads_153 : decode cX10_reads 153 = .ok (.ifCond .le 19, 3) := by decide +kernel
theorem dX10_reads_156 : decode cX10_reads 156 = .ok (.aload_n 0, 1) := by decide +kernel
theorem dX10_reads_157 : decode cX10_reads 157 = .ok (.getfield 71, 3) := by decide +kernel
theorem dX10_reads_160 : decode cX10_reads 160 = .ok (.iload_n 1, 1) := by decide +kernel
theorem dX10_reads_161 : decode cX10_reads 161 = .ok (.iaload, 1) := by decide +kernel
theorem dX10_reads_162 : decode cX10_reads 162 = .ok (.iconst 1, 1) := by decide +kernel
theorem dX10_reads_163 : decode cX10_reads 163 = .ok (.if_icmp .ne 9, 3) := by decide +kernel
theorem dX10_reads_166 : decode cX10_reads 166 = .ok (.iinc 1 (-1), 3) := by decide +kernel
theorem dX10_reads_169 : decode cX10_reads 169 = .ok (.goto (-17), 3) := by decide +kernel
theorem dX10_reads_172 : decode cX10_reads 172 = .ok (.aload_n 0, 1) := by decide +kernel
theorem dX10_reads_173 : decode cX10_reads 173 = .ok (.invokevirtual 220, 3) := by decide +kernel
theorem dX10_reads_176 : decode cX10_reads 176 = .ok (.goto (-165), 3) := by decide +kernel
theorem dX10_reads_179 : decode cX10_reads 179 = .ok (.aload_n 0, 1) := by decide +kernel
theorem dX10_reads_180 : decode cX10_reads 180 = .ok (.bipush 43, 2) := by decide +kernel
theorem dX10_reads_182 : decode cX10_reads 182 = .ok (.invokevirtual 209, 3) := by decide +kernel
theorem dX10_reads_185 : decode cX10_reads 185 = .ok (.ifCond .ne 21, 3) := by decide +kernel
theorem dX10_reads_188 : decode cX10_reads 188 = .ok (.aload_n 0, 1) := by decide +kernel
theorem dX10_reads_189 : decode cX10_reads 189 = .ok (.bipush 45, 2) := by decide +kernel
theorem dX10_reads_191 : decode cX10_reads 191 = .ok (.invokevirtual 209, 3) := by decide +kernel
theorem dX10_reads_194 : decode cX10_reads 194 = .ok (.ifCond .ne 12, 3) := by decide +kernel
theorem dX10_reads_197 : decode cX10_reads 197 = .ok (.aload_n 0, 1) := by decide +kernel
theorem dX10_reads_198 : decode cX10_reads 198 = .ok (.bipush 42, 2) := by decide +kernel
theorem dX10_reads_200 : decode cX10_reads 200 = .ok (.invokevirtual 209, 3) := by decide +kernel
theorem dX10_reads_203 : decode cX10_reads 203 = .ok (.ifCond .eq 42, 3) := by decide +kernel
theorem dX10_reads_206 : decode cX10_reads 206 = .ok (.aload_n 0, 1) := by decide +kernel
theorem dX10_reads_207 : decode cX10_reads 207 = .ok (.aload_n 0, 1) := by decide +kernel
theorem dX10_reads_208 : decode cX10_reads 208 = .ok (.bipush 43, 2) := by decide +kernel
theorem dX10_reads_210 : decode cX10_reads 210 = .ok (.invokevirtual 209, 3) := by decide +kernel
theorem dX10_reads_213 : decode cX10_reads 213 = .ok (.ifCond .eq 8, 3) := by decide +kernel
theorem dX10_reads_216 : decode cX10_reads 216 = .ok (.bipush 20, 2) := by decide +kernel
theorem dX10_reads_218 : decode cX10_reads 218 = .ok (.goto 19, 3) := by decide +kernel
theorem dX10_reads_221 : decode cX10_reads 221 = .ok (.aload_n 0, 1) := by decide +kernel
theorem dX10_reads_222 : decode cX10_reads 222 = .ok (.bipush 45, 2) := by decide +kernel
theorem dX10_reads_224 : decode cX10_reads 224 = .ok (.invokevirtual 209, 3) := by decide +kernel
theorem dX10_reads_227 : decode cX10_reads 227 = .ok (.ifCond .eq 8, 3) := by decide +kernel
theorem dX10_reads_230 : decode cX10_reads 230 = .ok (.bipush 21, 2) := by decide +kernel
theorem dX10_reads_232 : decode cX10_reads 232 = .ok (.goto 5, 3) := by decide +kernel
theorem dX10_reads_235 : decode cX10_reads 235 = .ok (.bipush 22, 2) := by decide +kernel
theorem dX10_reads_237 : decode cX10_reads 237 = .ok (.invokevirtual 216, 3) := by decide +kernel
theorem dX10_reads_240 : decode cX10_reads 240 = .ok (.iconst 1, 1) := by decide +kernel
theorem dX10_reads_241 : decode cX10_reads 241 = .ok (.istore_n 2, 1) := by decide +kernel
theorem dX10_reads_242 : decode cX10_reads 242 = .ok (.goto 182, 3) := by decide +kernel
theorem dX10_reads_245 : decode cX10_reads 245 = .ok (.aload_n 0, 1) := by decide +kernel
theorem dX10_reads_246 : decode cX10_reads 246 = .ok (.bipush 60, 2) := by decide +kernel
theorem dX10_reads_248 : decode cX10_reads 248 = .ok (.invokevirtual 209, 3) := by decide +kernel
theorem dX10_reads_251 : decode cX10_reads 251 = .ok (.ifCond .ne 12, 3) := by decide +kernel
theorem dX10_reads_254 : decode cX10_reads 254 = .ok (.aload_n 0, 1) := by decide +kernel
theorem dX10_reads_255 : decode cX10_reads 255 = .ok (.bipush 61, 2) := by decide +kernel
theorem dX10_reads_257 : decode cX10_reads 257 = .ok (.invokevirtual 209, 3) := by decide +kernel
theorem dX10_reads_260 : decode cX10_reads 260 = .ok (.ifCond .eq 44, 3) := by decide +kernel
theorem dX10_reads_263 : decode cX10_reads 263 = .ok (.aload_n 0, 1) := by decide +kernel
theorem dX10_reads_264 : decode cX10_reads 264 = .ok (.getfield 74, 3) := by decide +kernel
theorem dX10_reads_267 : decode cX10_reads 267 = .ok (.iload_n 1, 1) := by decide +kernel
theorem dX10_reads_268 : decode cX10_reads 268 = .ok (.baload, 1) := by decide +kernel
theorem dX10_reads_269 : decode cX10_reads 269 = .ok (.ifCond .ne 35, 3) := by decide +kernel
theorem dX10_reads_272 : decode cX10_reads 272 = .ok (.aload_n 0, 1) := by decide +kernel
theorem dX10_reads_273 : decode cX10_reads 273 = .ok (.aload_n 0, 1) := by decide +kernel
theorem dX10_reads_274 : decode cX10_reads 274 = .ok (.bipush 60, 2) := by decide +kernel
theorem dX10_reads_276 : decode cX10_reads 276 = .ok (.invokevirtual 209, 3) := by decide +kernel
theorem dX10_reads_279 : decode cX10_reads 279 = .ok (.ifCond .eq 8, 3) := by decide +kernel
theorem dX10_reads_282 : decode cX10_reads 282 = .ok (.bipush 24, 2) := by decide +kernel
theorem dX10_reads_284 : decode cX10_reads 284 = .ok (.goto 5, 3) := by decide +kernel
theorem dX10_reads_287 : decode cX10_reads 287 = .ok (.bipush 25, 2) := by decide +kernel
theorem dX10_reads_289 : decode cX10_reads 289 = .ok (.invokevirtual 216, 3) := by decide +kernel
theorem dX10_reads_292 : decode cX10_reads 292 = .ok (.aload_n 0, 1) := by decide +kernel
theorem dX10_reads_293 : decode cX10_reads 293 = .ok (.getfield 74, 3) := by decide +kernel
theorem dX10_reads_296 : decode cX10_reads 296 = .ok (.iload_n 1, 1) := by decide +kernel
theorem dX10_reads_297 : decode cX10_reads 297 = .ok (.iconst 1, 1) := by decide +kernel
theorem dX10_reads_298 : decode cX10_reads 298 = .ok (.bastore, 1) := by decide +kernel
theorem dX10_reads_299 : decode cX10_reads 299 = .ok (.iconst 1, 1) := by decide +kernel
theorem dX10_reads_300 : decode cX10_reads 300 = .ok (.istore_n 2, 1) := by decide +kernel
theorem dX10_reads_301 : decode cX10_reads 301 = .ok (.goto 123, 3) := by decide +kernel
theorem dX10_reads_304 : decode cX10_reads 304 = .ok (.aload_n 0, 1) := by decide +kernel
theorem dX10_reads_305 : decode cX10_reads 305 = .ok (.ldc2_w 223, 3) := by decide +kernel
theorem dX10_reads_308 : decode cX10_reads 308 = .ok (.invokevirtual 205, 3) := by decide +kernel
theorem dX10_reads_311 : decode cX10_reads 311 = .ok (.ifCond .ne 13, 3) := by decide +kernel
theorem dX10_reads_314 : decode cX10_reads 314 = .ok (.aload_n 0, 1) := by decide +kernel
theorem dX10_reads_315 : decode cX10_reads 315 = .ok (.ldc2_w 225, 3) := by decide +kernel
theorem dX10_reads_318 : decode cX10_reads 318 = .ok (.invokevirtual 205, 3) := by decide +kernel
theorem dX10_reads_321 : decode cX10_reads 321 = .ok (.ifCond .eq 36, 3) := by decide +kernel
theorem dX10_reads_324 : decode cX10_reads 324 = .ok (.aload_n 0, 1) := by decide +kernel
theorem dX10_reads_325 : decode cX10_reads 325 = .ok (.aload_n 0, 1) := by decide +kernel
theorem dX10_reads_326 : decode cX10_reads 326 = .ok (.ldc2_w 223, 3) := by decide +kernel
theorem dX10_reads_329 : decode cX10_reads 329 = .ok (.invokevirtual 205, 3) := by decide +kernel
theorem dX10_reads_332 : decode cX10_reads 332 = .ok (.ifCond .eq 8, 3) := by decide +kernel
theorem dX10_reads_335 : decode cX10_reads 335 = .ok (.bipush 26, 2) := by decide +kernel
theorem dX10_reads_337 : decode cX10_reads 337 = .ok (.goto 5, 3) := by decide +kernel
theorem dX10_reads_340 : decode cX10_reads 340 = .ok (.bipush 27, 2) := by decide +kernel
theorem dX10_reads_342 : decode cX10_reads 342 = .ok (.invokevirtual 216, 3) := by decide +kernel
theorem dX10_reads_345 : decode cX10_reads 345 = .ok (.aload_n 0, 1) := by decide +kernel
theorem dX10_reads_346 : decode cX10_reads 346 = .ok (.getfield 74, 3) := by decide +kernel
theorem dX10_reads_349 : decode cX10_reads 349 = .ok (.iload_n 1, 1) := by decide +kernel
theorem dX10_reads_350 : decode cX10_reads 350 = .ok (.iconst 0, 1) := by decide +kernel
theorem dX10_reads_351 : decode cX10_reads 351 = .ok (.bastore, 1) := by decide +kernel
theorem dX10_reads_352 : decode cX10_reads 352 = .ok (.iconst 1, 1) := by decide +kernel
theorem dX10_reads_353 : decode cX10_reads 353 = .ok (.istore_n 2, 1) := by decide +kernel
theorem dX10_reads_354 : decode cX10_reads 354 = .ok (.goto 70, 3) := by decide +kernel
theorem dX10_reads_357 : decode cX10_reads 357 = .ok (.aload_n 0, 1) := by decide +kernel
theorem dX10_reads_358 : decode cX10_reads 358 = .ok (.bipush 41, 2) := by decide +kernel
theorem dX10_reads_360 : decode cX10_reads 360 = .ok (.invokevirtual 209, 3) := by decide +kernel
theorem dX10_reads_363 : decode cX10_reads 363 = .ok (.ifCond .eq 36, 3) := by decide +kernel
theorem dX10_reads_366 : decode cX10_reads 366 = .ok (.iload_n 1, 1) := by decide +kernel
theorem dX10_reads_367 : decode cX10_reads 367 = .ok (.ifCond .le 32, 3) := by decide +kernel
theorem dX10_reads_370 : decode cX10_reads 370 = .ok (.aload_n 0, 1) := by decide +kernel
theorem dX10_reads_371 : decode cX10_reads 371 = .ok (.bipush 29, 2) := by decide +kernel
theorem dX10_reads_373 : decode cX10_reads 373 = .ok (.invokevirtual 216, 3) := by decide +kernel
theorem dX10_reads_376 : decode cX10_reads 376 = .ok (.iinc 1 (-1), 3) := by decide +kernel
theorem dX10_reads_379 : decode cX10_reads 379 = .ok (.iload_n 1, 1) := by decide +kernel
theorem dX10_reads_380 : decode cX10_reads 380 = .ok (.ifCond .le 44, 3) := by decide +kernel
theorem dX10_reads_383 : decode cX10_reads 383 = .ok (.aload_n 0, 1) := by decide +kernel
theorem dX10_reads_384 : decode cX10_reads 384 = .ok (.getfield 71, 3) := by decide +kernel
theorem dX10_reads_387 : decode cX10_reads 387 = .ok (.iload_n 1, 1) := by decide +kernel
theorem dX10_reads_388 : decode cX10_reads 388 = .ok (.iaload, 1) := by decide +kernel
theorem dX10_reads_389 : decode cX10_reads 389 = .ok (.iconst 1, 1) := by decide +kernel
theorem dX10_reads_390 : decode cX10_reads 390 = .ok (.if_icmp .ne 34, 3) := by decide +kernel
theorem dX10_reads_393 : decode cX10_reads 393 = .ok (.iinc 1 (-1), 3) := by decide +kernel
theorem dX10_reads_396 : decode cX10_reads 396 = .ok (.goto (-17), 3) := by decide +kernel
theorem dX10_reads_399 : decode cX10_reads 399 = .ok (.iload_n 1, 1) := by decide +kernel
theorem dX10_reads_400 : decode cX10_reads 400 = .ok (.ifCond .ne 18, 3) := by decide +kernel
theorem dX10_reads_403 : decode cX10_reads 403 = .ok (.aload_n 0, 1) := by decide +kernel
theorem dX10_reads_404 : decode cX10_reads 404 = .ok (.bipush 59, 2) := by decide +kernel
theorem dX10_reads_406 : decode cX10_reads 406 = .ok (.invokevirtual 209, 3) := by decide +kernel
theorem dX10_reads_409 : decode cX10_reads 409 = .ok (.ifCond .eq 9, 3) := by decide +kernel
theorem dX10_reads_412 : decode cX10_reads 412 = .ok (.aload_n 0, 1) := by decide +kernel
theorem dX10_reads_413 : decode cX10_reads 413 = .ok (.invokevirtual 220, 3) := by decide +kernel
theorem dX10_reads_416 : decode cX10_reads 416 = .ok (.iconst 1, 1) := by decide +kernel
theorem dX10_reads_417 : decode cX10_reads 417 = .ok (.ireturn, 1) := by decide +kernel
theorem dX10_reads_418 : decode cX10_reads 418 = .ok (.aload_n 0, 1) := by decide +kernel
theorem dX10_reads_419 : decode cX10_reads 419 = .ok (.iconst 1, 1) := by decide +kernel
theorem dX10_reads_420 : decode cX10_reads 420 = .ok (.invokevirtual 213, 3) := by decide +kernel
theorem dX10_reads_423 : decode cX10_reads 423 = .ok (.ireturn, 1) := by decide +kernel
theorem dX10_reads_424 : decode cX10_reads 424 = .ok (.aload_n 0, 1) := by decide +kernel
theorem dX10_reads_425 : decode cX10_reads 425 = .ok (.invokevirtual 220, 3) := by decide +kernel
theorem dX10_reads_428 : decode cX10_reads 428 = .ok (.goto (-417), 3) := by decide +kernel
theorem dX10_opens_0 : decode cX10_opens 0 = .ok (.aload_n 0, 1) := by decide +kernel
theorem dX10_opens_1 : decode cX10_opens 1 = .ok (.getfield 81, 3) := by decide +kernel
theorem dX10_opens_4 : decode cX10_opens 4 = .ok (.iload_n 1, 1) := by decide +kernel
theorem dX10_opens_5 : decode cX10_opens 5 = .ok (.iconst 0, 1) := by decide +kernel
theorem dX10_opens_6 : decode cX10_opens 6 = .ok (.iastore, 1) := by decide +kernel
theorem dX10_opens_7 : decode cX10_opens 7 = .ok (.aload_n 0, 1) := by decide +kernel
theorem dX10_opens_8 : decode cX10_opens 8 = .ok (.getfield 87, 3) := by decide +kernel
theorem dX10_opens_11 : decode cX10_opens 11 = .ok (.iload_n 1, 1) := by decide +kernel
theorem dX10_opens_12 : decode cX10_opens 12 = .ok (.iconst 0, 1) := by decide +kernel
theorem dX10_opens_13 : decode cX10_opens 13 = .ok (.iastore, 1) := by decide +kernel
theorem dX10_opens_14 : decode cX10_opens 14 = .ok (.aload_n 0, 1) := by decide +kernel
theorem dX10_opens_15 : decode cX10_opens 15 = .ok (.getfield 90, 3) := by decide +kernel
theorem dX10_opens_18 : decode cX10_opens 18 = .ok (.iload_n 1, 1) := by decide +kernel
theorem dX10_opens_19 : decode cX10_opens 19 = .ok (.iconst 0, 1) := by decide +kernel
theorem dX10_opens_20 : decode cX10_opens 20 = .ok (.iastore, 1) := by decide +kernel
theorem dX10_opens_21 : decode cX10_opens 21 = .ok (.aload_n 0, 1) := by decide +kernel
theorem dX10_opens_22 : decode cX10_opens 22 = .ok (.getfield 93, 3) := by decide +kernel
theorem dX10_opens_25 : decode cX10_opens 25 = .ok (.iload_n 1, 1) := by decide +kernel
theorem dX10_opens_26 : decode cX10_opens 26 = .ok (.bipush 20, 2) := by decide +kernel
theorem dX10_opens_28 : decode cX10_opens 28 = .ok (.iastore, 1) := by decide +kernel
theorem dX10_opens_29 : decode cX10_opens 29 = .ok (.aload_n 0, 1) := by decide +kernel
theorem dX10_opens_30 : decode cX10_opens 30 = .ok (.getfield 99, 3) := by decide +kernel
theorem dX10_opens_33 : decode cX10_opens 33 = .ok (.iload_n 1, 1) := by decide +kernel
theorem dX10_opens_34 : decode cX10_opens 34 = .ok (.iconst 0, 1) := by decide +kernel
theorem dX10_opens_35 : decode cX10_opens 35 = .ok (.iastore, 1) := by decide +kernel
theorem dX10_opens_36 : decode cX10_opens 36 = .ok (.return_, 1) := by decide +kernel
theorem dX10_sums_0 : decode cX10_sums 0 = .ok (.aload_n 0, 1) := by decide +kernel
theorem dX10_sums_1 : decode cX10_sums 1 = .ok (.getfield 90, 3) := by decide +kernel
theorem dX10_sums_4 : decode cX10_sums 4 = .ok (.iload_n 1, 1) := by decide +kernel
theorem dX10_sums_5 : decode cX10_sums 5 = .ok (.aload_n 0, 1) := by decide +kernel
theorem dX10_sums_6 : decode cX10_sums 6 = .ok (.getfield 93, 3) := by decide +kernel
theorem dX10_sums_9 : decode cX10_sums 9 = .ok (.iload_n 1, 1) := by decide +kernel
theorem dX10_sums_10 : decode cX10_sums 10 = .ok (.iaload, 1) := by decide +kernel
theorem dX10_sums_11 : decode cX10_sums 11 = .ok (.bipush 21, 2) := by decide +kernel
theorem dX10_sums_13 : decode cX10_sums 13 = .ok (.if_icmp .ne 19, 3) := by decide +kernel
theorem dX10_sums_16 : decode cX10_sums 16 = .ok (.aload_n 0, 1) := by decide +kernel
theorem dX10_sums_17 : decode cX10_sums 17 = .ok (.getfield 90, 3) := by decide +kernel
theorem dX10_sums_20 : decode cX10_sums 20 = .ok (.iload_n 1, 1) := by decide +kernel
theorem dX10_sums_21 : decode cX10_sums 21 = .ok (.iaload, 1) := by decide +kernel
theorem dX10_sums_22 : decode cX10_sums 22 = .ok (.aload_n 0, 1) := by decide +kernel
theorem dX10_sums_23 : decode cX10_sums 23 = .ok (.getfield 96, 3) := by decide +kernel
theorem dX10_sums_26 : decode cX10_sums 26 = .ok (.iload_n 1, 1) := by decide +kernel
theorem dX10_sums_27 : decode cX10_sums 27 = .ok (.iaload, 1) := by decide +kernel
theorem dX10_sums_28 : decode cX10_sums 28 = .ok (.isub, 1) := by decide +kernel
theorem dX10_sums_29 : decode cX10_sums 29 = .ok (.goto 16, 3) := by decide +kernel
theorem dX10_sums_32 : decode cX10_sums 32 = .ok (.aload_n 0, 1) := by decide +kernel
theorem dX10_sums_33 : decode cX10_sums 33 = .ok (.getfield 90, 3) := by decide +kernel
theorem dX10_sums_36 : decode cX10_sums 36 = .ok (.iload_n 1, 1) := by decide +kernel
theorem dX10_sums_37 : decode cX10_sums 37 = .ok (.iaload, 1) := by decide +kernel
theorem dX10_sums_38 : decode cX10_sums 38 = .ok (.aload_n 0, 1) := by decide +kernel
theorem dX10_sums_39 : decode cX10_sums 39 = .ok (.getfield 96, 3) := by decide +kernel
theorem dX10_sums_42 : decode cX10_sums 42 = .ok (.iload_n 1, 1) := by decide +kernel
theorem dX10_sums_43 : decode cX10_sums 43 = .ok (.iaload, 1) := by decide +kernel
theorem dX10_sums_44 : decode cX10_sums 44 = .ok (.iadd, 1) := by decide +kernel
theorem dX10_sums_45 : decode cX10_sums 45 = .ok (.iastore, 1) := by decide +kernel
theorem dX10_sums_46 : decode cX10_sums 46 = .ok (.aload_n 0, 1) := by decide +kernel
theorem dX10_sums_47 : decode cX10_sums 47 = .ok (.getfield 99, 3) := by decide +kernel
theorem dX10_sums_50 : decode cX10_sums 50 = .ok (.iload_n 1, 1) := by decide +kernel
theorem dX10_sums_51 : decode cX10_sums 51 = .ok (.iconst 0, 1) := by decide +kernel
theorem dX10_sums_52 : decode cX10_sums 52 = .ok (.iastore, 1) := by decide +kernel
theorem dX10_sums_53 : decode cX10_sums 53 = .ok (.return_, 1) := by decide +kernel
theorem dX10_tests_0 : decode cX10_tests 0 = .ok (.aload_n 0, 1) := by decide +kernel
theorem dX10_tests_1 : decode cX10_tests 1 = .ok (.iload_n 1, 1) := by decide +kernel
theorem dX10_tests_2 : decode cX10_tests 2 = .ok (.invokevirtual 227, 3) := by decide +kernel
theorem dX10_tests_5 : decode cX10_tests 5 = .ok (.aload_n 0, 1) := by decide +kernel
theorem dX10_tests_6 : decode cX10_tests 6 = .ok (.getfield 90, 3) := by decide +kernel
theorem dX10_tests_9 : decode cX10_tests 9 = .ok (.iload_n 1, 1) := by decide +kernel
theorem dX10_tests_10 : decode cX10_tests 10 = .ok (.iaload, 1) := by decide +kernel
theorem dX10_tests_11 : decode cX10_tests 11 = .ok (.istore_n 2, 1) := by decide +kernel
theorem dX10_tests_12 : decode cX10_tests 12 = .ok (.aload_n 0, 1) := by decide +kernel
theorem dX10_tests_13 : decode cX10_tests 13 = .ok (.getfield 87, 3) := by decide +kernel
theorem dX10_tests_16 : decode cX10_tests 16 = .ok (.iload_n 1, 1) := by decide +kernel
theorem dX10_tests_17 : decode cX10_tests 17 = .ok (.iaload, 1) := by decide +kernel
theorem dX10_tests_18 : decode cX10_tests 18 = .ok (.bipush 24, 2) := by decide +kernel
theorem dX10_tests_20 : decode cX10_tests 20 = .ok (.if_icmp .ne 24, 3) := by decide +kernel
theorem dX10_tests_23 : decode cX10_tests 23 = .ok (.aload_n 0, 1) := by decide +kernel
theorem dX10_tests_24 : decode cX10_tests 24 = .ok (.getfield 84, 3) := by decide +kernel
theorem dX10_tests_27 : decode cX10_tests 27 = .ok (.iload_n 1, 1) := by decide +kernel
theorem dX10_tests_28 : decode cX10_tests 28 = .ok (.iaload, 1) := by decide +kernel
theorem dX10_tests_29 : decode cX10_tests 29 = .ok (.aload_n 0, 1) := by decide +kernel
theorem dX10_tests_30 : decode cX10_tests 30 = .ok (.getfield 90, 3) := by decide +kernel
theorem dX10_tests_33 : decode cX10_tests 33 = .ok (.iload_n 1, 1) := by decide +kernel
theorem dX10_tests_34 : decode cX10_tests 34 = .ok (.iaload, 1) := by decide +kernel
theorem dX10_tests_35 : decode cX10_tests 35 = .ok (.if_icmp .ge 7, 3) := by decide +kernel
theorem dX10_tests_38 : decode cX10_tests 38 = .ok (.iconst 1, 1) := by decide +kernel
theorem dX10_tests_39 : decode cX10_tests 39 = .ok (.goto 4, 3) := by decide +kernel
theorem dX10_tests_42 : decode cX10_tests 42 = .ok (.iconst 0, 1) := by decide +kernel
theorem dX10_tests_43 : decode cX10_tests 43 = .ok (.istore_n 2, 1) := by decide +kernel
theorem dX10_tests_44 : decode cX10_tests 44 = .ok (.aload_n 0, 1) := by decide +kernel
theorem dX10_tests_45 : decode cX10_tests 45 = .ok (.getfield 87, 3) := by decide +kernel
theorem dX10_tests_48 : decode cX10_tests 48 = .ok (.iload_n 1, 1) := by decide +kernel
theorem dX10_tests_49 : decode cX10_tests 49 = .ok (.iaload, 1) := by decide +kernel
theorem dX10_tests_50 : decode cX10_tests 50 = .ok (.bipush 25, 2) := by decide +kernel
theorem dX10_tests_52 : decode cX10_tests 52 = .ok (.if_icmp .ne 24, 3) := by decide +kernel
theorem dX10_tests_55 : decode cX10_tests 55 = .ok (.aload_n 0, 1) := by decide +kernel
theorem dX10_tests_56 : decode cX10_tests 56 = .ok (.getfield 84, 3) := by decide +kernel
theorem dX10_tests_59 : decode cX10_tests 59 = .ok (.iload_n 1, 1) := by decide +kernel
theorem dX10_tests_60 : decode cX10_tests 60 = .ok (.iaload, 1) := by decide +kernel
theorem dX10_tests_61 : decode cX10_tests 61 = .ok (.aload_n 0, 1) := by decide +kernel
theorem dX10_tests_62 : decode cX10_tests 62 = .ok (.getfield 90, 3) := by decide +kernel
theorem dX10_tests_65 : decode cX10_tests 65 = .ok (.iload_n 1, 1) := by decide +kernel
theorem dX10_tests_66 : decode cX10_tests 66 = .ok (.iaload, 1) := by decide +kernel
theorem dX10_tests_67 : decode cX10_tests 67 = .ok (.if_icmp .ne 7, 3) := by decide +kernel
theorem dX10_tests_70 : decode cX10_tests 70 = .ok (.iconst 1, 1) := by decide +kernel
theorem dX10_tests_71 : decode cX10_tests 71 = .ok (.goto 4, 3) := by decide +kernel
theorem dX10_tests_74 : decode cX10_tests 74 = .ok (.iconst 0, 1) := by decide +kernel
theorem dX10_tests_75 : decode cX10_tests 75 = .ok (.istore_n 2, 1) := by decide +kernel
theorem dX10_tests_76 : decode cX10_tests 76 = .ok (.aload_n 0, 1) := by decide +kernel
theorem dX10_tests_77 : decode cX10_tests 77 = .ok (.getfield 81, 3) := by decide +kernel
theorem dX10_tests_80 : decode cX10_tests 80 = .ok (.iload_n 1, 1) := by decide +kernel
theorem dX10_tests_81 : decode cX10_tests 81 = .ok (.iaload, 1) := by decide +kernel
theorem dX10_tests_82 : decode cX10_tests 82 = .ok (.bipush 26, 2) := by decide +kernel
theorem dX10_tests_84 : decode cX10_tests 84 = .ok (.if_icmp .ne 22, 3) := by decide +kernel
theorem dX10_tests_87 : decode cX10_tests 87 = .ok (.aload_n 0, 1) := by decide +kernel
theorem dX10_tests_88 : decode cX10_tests 88 = .ok (.getfield 78, 3) := by decide +kernel
theorem dX10_tests_91 : decode cX10_tests 91 = .ok (.iload_n 1, 1) := by decide +kernel
theorem dX10_tests_92 : decode cX10_tests 92 = .ok (.iaload, 1) := by decide +kernel
theorem dX10_tests_93 : decode cX10_tests 93 = .ok (.ifCond .eq 11, 3) := by decide +kernel
theorem dX10_tests_96 : decode cX10_tests 96 = .ok (.iload_n 2, 1) := by decide +kernel
theorem dX10_tests_97 : decode cX10_tests 97 = .ok (.ifCond .eq 7, 3) := by decide +kernel
theorem dX10_tests_100 : decode cX10_tests 100 = .ok (.iconst 1, 1) := by decide +kernel
theorem dX10_tests_101 : decode cX10_tests 101 = .ok (.goto 4, 3) := by decide +kernel
theorem dX10_tests_104 : decode cX10_tests 104 = .ok (.iconst 0, 1) := by decide +kernel
theorem dX10_tests_105 : decode cX10_tests 105 = .ok (.istore_n 2, 1) := by decide +kernel
theorem dX10_tests_106 : decode cX10_tests 106 = .ok (.aload_n 0, 1) := by decide +kernel
theorem dX10_tests_107 : decode cX10_tests 107 = .ok (.getfield 81, 3) := by decide +kernel
theorem dX10_tests_110 : decode cX10_tests 110 = .ok (.iload_n 1, 1) := by decide +kernel
theorem dX10_tests_111 : decode cX10_tests 111 = .ok (.iaload, 1) := by decide +kernel
theorem dX10_tests_112 : decode cX10_tests 112 = .ok (.bipush 27, 2) := by decide +kernel
theorem dX10_tests_114 : decode cX10_tests 114 = .ok (.if_icmp .ne 22, 3) := by decide +kernel
theorem dX10_tests_117 : decode cX10_tests 117 = .ok (.aload_n 0, 1) := by decide +kernel
theorem dX10_tests_118 : decode cX10_tests 118 = .ok (.getfield 78, 3) := by decide +kernel
theorem dX10_tests_121 : decode cX10_tests 121 = .ok (.iload_n 1, 1) := by decide +kernel
theorem dX10_tests_122 : decode cX10_tests 122 = .ok (.iaload, 1) := by decide +kernel
theorem dX10_tests_123 : decode cX10_tests 123 = .ok (.ifCond .ne 7, 3) := by decide +kernel
theorem dX10_tests_126 : decode cX10_tests 126 = .ok (.iload_n 2, 1) := by decide +kernel
theorem dX10_tests_127 : decode cX10_tests 127 = .ok (.ifCond .eq 7, 3) := by decide +kernel
theorem dX10_tests_130 : decode cX10_tests 130 = .ok (.iconst 1, 1) := by decide +kernel
theorem dX10_tests_131 : decode cX10_tests 131 = .ok (.goto 4, 3) := by decide +kernel
theorem dX10_tests_134 : decode cX10_tests 134 = .ok (.iconst 0, 1) := by decide +kernel
theorem dX10_tests_135 : decode cX10_tests 135 = .ok (.istore_n 2, 1) := by decide +kernel
theorem dX10_tests_136 : decode cX10_tests 136 = .ok (.aload_n 0, 1) := by decide +kernel
theorem dX10_tests_137 : decode cX10_tests 137 = .ok (.getfield 78, 3) := by decide +kernel
theorem dX10_tests_140 : decode cX10_tests 140 = .ok (.iload_n 1, 1) := by decide +kernel
theorem dX10_tests_141 : decode cX10_tests 141 = .ok (.iload_n 2, 1) := by decide +kernel
theorem dX10_tests_142 : decode cX10_tests 142 = .ok (.iastore, 1) := by decide +kernel
theorem dX10_tests_143 : decode cX10_tests 143 = .ok (.aload_n 0, 1) := by decide +kernel
theorem dX10_tests_144 : decode cX10_tests 144 = .ok (.getfield 87, 3) := by decide +kernel
theorem dX10_tests_147 : decode cX10_tests 147 = .ok (.iload_n 1, 1) := by decide +kernel
theorem dX10_tests_148 : decode cX10_tests 148 = .ok (.iconst 0, 1) := by decide +kernel
theorem dX10_tests_149 : decode cX10_tests 149 = .ok (.iastore, 1) := by decide +kernel
theorem dX10_tests_150 : decode cX10_tests 150 = .ok (.aload_n 0, 1) := by decide +kernel
theorem dX10_tests_151 : decode cX10_tests 151 = .ok (.getfield 90, 3) := by decide +kernel
theorem dX10_tests_154 : decode cX10_tests 154 = .ok (.iload_n 1, 1) := by decide +kernel
theorem dX10_tests_155 : decode cX10_tests 155 = .ok (.iconst 0, 1) := by decide +kernel
theorem dX10_tests_156 : decode cX10_tests 156 = .ok (.iastore, 1) := by decide +kernel
theorem dX10_tests_157 : decode cX10_tests 157 = .ok (.aload_n 0, 1) := by decide +kernel
theorem dX10_tests_158 : decode cX10_tests 158 = .ok (.getfield 93, 3) := by decide +kernel
theorem dX10_tests_161 : decode cX10_tests 161 = .ok (.iload_n 1, 1) := by decide +kernel
theorem dX10_tests_162 : decode cX10_tests 162 = .ok (.bipush 20, 2) := by decide +kernel
theorem dX10_tests_164 : decode cX10_tests 164 = .ok (.iastore, 1) := by decide +kernel
theorem dX10_tests_165 : decode cX10_tests 165 = .ok (.return_, 1) := by decide +kernel
theorem dX10_worked_0 : decode cX10_worked 0 = .ok (.iconst 0, 1) := by decide +kernel
theorem dX10_worked_1 : decode cX10_worked 1 = .ok (.istore_n 2, 1) := by decide +kernel
theorem dX10_worked_2 : decode cX10_worked 2 = .ok (.aload_n 0, 1) := by decide +kernel
theorem dX10_worked_3 : decode cX10_worked 3 = .ok (.iconst 0, 1) := by decide +kernel
theorem dX10_worked_4 : decode cX10_worked 4 = .ok (.invokevirtual 230, 3) := by decide +kernel
theorem dX10_worked_7 : decode cX10_worked 7 = .ok (.aload_n 0, 1) := by decide +kernel
theorem dX10_worked_8 : decode cX10_worked 8 = .ok (.getfield 62, 3) := by decide +kernel
theorem dX10_worked_11 : decode cX10_worked 11 = .ok (.iload_n 1, 1) := by decide +kernel
theorem dX10_worked_12 : decode cX10_worked 12 = .ok (.iaload, 1) := by decide +kernel
theorem dX10_worked_13 : decode cX10_worked 13 = .ok (.istore_n 3, 1) := by decide +kernel
theorem dX10_worked_14 : decode cX10_worked 14 = .ok (.iload_n 3, 1) := by decide +kernel
theorem dX10_worked_15 : decode cX10_worked 15 = .ok (.aload_n 0, 1) := by decide +kernel
theorem dX10_worked_16 : decode cX10_worked 16 = .ok (.getfield 65, 3) := by decide +kernel
theorem dX10_worked_19 : decode cX10_worked 19 = .ok (.iload_n 1, 1) := by decide +kernel
theorem dX10_worked_20 : decode cX10_worked 20 = .ok (.iaload, 1) := by decide +kernel
theorem dX10_worked_21 : decode cX10_worked 21 = .ok (.if_icmp .ge 314, 3) := by decide +kernel
theorem dX10_worked_24 : decode cX10_worked 24 = .ok (.aload_n 0, 1) := by decide +kernel
theorem dX10_worked_25 : decode cX10_worked 25 = .ok (.getfield 68, 3) := by decide +kernel
theorem dX10_worked_28 : decode cX10_worked 28 = .ok (.iload_n 3, 1) := by decide +kernel
theorem dX10_worked_29 : decode cX10_worked 29 = .ok (.iaload, 1) := by decide +kernel
theorem dX10_worked_30 : decode cX10_worked 30 = .ok (.istore 4, 2) := by decide +kernel
theorem dX10_worked_32 : decode cX10_worked 32 = .ok (.iload 4, 2) := by decide +kernel
theorem dX10_worked_34 : decode cX10_worked 34 = .ok (.bipush 28, 2) := by decide +kernel
theorem dX10_worked_36 : decode cX10_worked 36 = .ok (.if_icmp .eq 10, 3) := by decide +kernel
theorem dX10_worked_39 : decode cX10_worked 39 = .ok (.iload 4, 2) := by decide +kernel
theorem dX10_worked_41 : decode cX10_worked 41 = .ok (.bipush 30, 2) := by decide +kernel
theorem dX10_worked_43 : decode cX10_worked 43 = .ok (.if_icmp .ne 32, 3) := by decide +kernel
theorem dX10_worked_46 : decode cX10_worked 46 = .ok (.iinc 2 1, 3) := by decide +kernel
theorem dX10_worked_49 : decode cX10_worked 49 = .ok (.aload_n 0, 1) := by decide +kernel
theorem dX10_worked_50 : decode cX10_worked 50 = .ok (.getfield 102, 3) := by decide +kernel
theorem dX10_worked_53 : decode cX10_worked 53 = .ok (.iload_n 2, 1) := by decide +kernel
theorem dX10_worked_54 : decode cX10_worked 54 = .ok (.iload 4, 2) := by decide +kernel
theorem dX10_worked_56 : decode cX10_worked 56 = .ok (.bipush 30, 2) := by decide +kernel
theorem dX10_worked_58 : decode cX10_worked 58 = .ok (.if_icmp .ne 7, 3) := by decide +kernel
theorem dX10_worked_61 : decode cX10_worked 61 = .ok (.iconst 1, 1) := by decide +kernel
theorem dX10_worked_62 : decode cX10_worked 62 = .ok (.goto 4, 3) := by decide +kernel
theorem dX10_worked_65 : decode cX10_worked 65 = .ok (.iconst 0, 1) := by decide +kernel
theorem dX10_worked_66 : decode cX10_worked 66 = .ok (.iastore, 1) := by decide +kernel
theorem dX10_worked_67 : decode cX10_worked 67 = .ok (.aload_n 0, 1) := by decide +kernel
theorem dX10_worked_68 : decode cX10_worked 68 = .ok (.iload_n 2, 1) := by decide +kernel
theorem dX10_worked_69 : decode cX10_worked 69 = .ok (.invokevirtual 230, 3) := by decide +kernel
theorem dX10_worked_72 : decode cX10_worked 72 = .ok (.goto 257, 3) := by decide +kernel
theorem dX10_worked_75 : decode cX10_worked 75 = .ok (.iload 4, 2) := by decide +kernel
theorem dX10_worked_77 : decode cX10_worked 77 = .ok (.bipush 20, 2) := by decide +kernel
theorem dX10_worked_79 : decode cX10_worked 79 = .ok (.if_icmp .eq 10, 3) := by decide +kernel
theorem dX10_worked_82 : decode cX10_worked 82 = .ok (.iload 4, 2) := by decide +kernel
theorem dX10_worked_84 : decode cX10_worked 84 = .ok (.bipush 21, 2) := by decide +kernel
theorem dX10_worked_86 : decode cX10_worked 86 = .ok (.if_icmp .ne 19, 3) := by decide +kernel
theorem dX10_worked_89 : decode cX10_worked 89 = .ok (.aload_n 0, 1) := by decide +kernel
theorem dX10_worked_90 : decode cX10_worked 90 = .ok (.iload_n 2, 1) := by decide +kernel
theorem dX10_worked_91 : decode cX10_worked 91 = .ok (.invokevirtual 227, 3) := by decide +kernel
theorem dX10_worked_94 : decode cX10_worked 94 = .ok (.aload_n 0, 1) := by decide +kernel
theorem dX10_worked_95 : decode cX10_worked 95 = .ok (.getfield 93, 3) := by decide +kernel
theorem dX10_worked_98 : decode cX10_worked 98 = .ok (.iload_n 2, 1) := by decide +kernel
theorem dX10_worked_99 : decode cX10_worked 99 = .ok (.iload 4, 2) := by decide +kernel
theorem dX10_worked_101 : decode cX10_worked 101 = .ok (.iastore, 1) := by decide +kernel
theorem dX10_worked_102 : decode cX10_worked 102 = .ok (.goto 227, 3) := by decide +kernel
theorem dX10_worked_105 : decode cX10_worked 105 = .ok (.iload 4, 2) := by decide +kernel
theorem dX10_worked_107 : decode cX10_worked 107 = .ok (.bipush 22, 2) := by decide +kernel
theorem dX10_worked_109 : decode cX10_worked 109 = .ok (.if_icmp .ne 14, 3) := by decide +kernel
theorem dX10_worked_112 : decode cX10_worked 112 = .ok (.aload_n 0, 1) := by decide +kernel
theorem dX10_worked_113 : decode cX10_worked 113 = .ok (.getfield 99, 3) := by decide +kernel
theorem dX10_worked_116 : decode cX10_worked 116 = .ok (.iload_n 2, 1) := by decide +kernel
theorem dX10_worked_117 : decode cX10_worked 117 = .ok (.iload 4, 2) := by decide +kernel
theorem dX10_worked_119 : decode cX10_worked 119 = .ok (.iastore, 1) := by decide +kernel
theorem dX10_worked_120 : decode cX10_worked 120 = .ok (.goto 209, 3) := by decide +kernel
theorem dX10_worked_123 : decode cX10_worked 123 = .ok (.iload 4, 2) := by decide +kernel
theorem dX10_worked_125 : decode cX10_worked 125 = .ok (.bipush 24, 2) := by decide +kernel
theorem dX10_worked_127 : decode cX10_worked 127 = .ok (.if_icmp .eq 10, 3) := by decide +kernel
theorem dX10_worked_130 : decode cX10_worked 130 = .ok (.iload 4, 2) := by decide +kernel
theorem dX10_worked_132 : decode cX10_worked 132 = .ok (.bipush 25, 2) := by decide +kernel
theorem dX10_worked_134 : decode cX10_worked 134 = .ok (.if_icmp .ne 46, 3) := by decide +kernel
theorem dX10_worked_137 : decode cX10_worked 137 = .ok (.aload_n 0, 1) := by decide +kernel
theorem dX10_worked_138 : decode cX10_worked 138 = .ok (.iload_n 2, 1) := by decide +kernel
end
section
theorem dX10_worked_139 : decode cX10_worked 139 = .ok (.invokevirtual 227, 3) := by decide +kernel
theorem dX10_worked_142 : decode cX10_worked 142 = .ok (.aload_n 0, 1) := by decide +kernel
theorem dX10_worked_143 : decode cX10_worked 143 = .ok (.getfield 84, 3) := by decide +kernel
theorem dX10_worked_146 : decode cX10_worked 146 = .ok (.iload_n 2, 1) := by decide +kernel
theorem dX10_worked_147 : decode cX10_worked 147 = .ok (.aload_n 0, 1) := by decide +kernel
theorem dX10_worked_148 : decode cX10_worked 148 = .ok (.getfield 90, 3) := by decide +kernel
theorem dX10_worked_151 : decode cX10_worked 151 = .ok (.iload_n 2, 1) := by decide +kernel
theorem dX10_worked_152 : decode cX10_worked 152 = .ok (.iaload, 1) := by decide +kernel
theorem dX10_worked_153 : decode cX10_worked 153 = .ok (.iastore, 1) := by decide +kernel
theorem dX10_worked_154 : decode cX10_worked 154 = .ok (.aload_n 0, 1) := by decide +kernel
theorem dX10_worked_155 : decode cX10_worked 155 = .ok (.getfield 87, 3) := by decide +kernel
theorem dX10_worked_158 : decode cX10_worked 158 = .ok (.iload_n 2, 1) := by decide +kernel
theorem dX10_worked_159 : decode cX10_worked 159 = .ok (.iload 4, 2) := by decide +kernel
theorem dX10_worked_161 : decode cX10_worked 161 = .ok (.iastore, 1) := by decide +kernel
theorem dX10_worked_162 : decode cX10_worked 162 = .ok (.aload_n 0, 1) := by decide +kernel
theorem dX10_worked_163 : decode cX10_worked 163 = .ok (.getfield 90, 3) := by decide +kernel
theorem dX10_worked_166 : decode cX10_worked 166 = .ok (.iload_n 2, 1) := by decide +kernel
theorem dX10_worked_167 : decode cX10_worked 167 = .ok (.iconst 0, 1) := by decide +kernel
theorem dX10_worked_168 : decode cX10_worked 168 = .ok (.iastore, 1) := by decide +kernel
theorem dX10_worked_169 : decode cX10_worked 169 = .ok (.aload_n 0, 1) := by decide +kernel
theorem dX10_worked_170 : decode cX10_worked 170 = .ok (.getfield 93, 3) := by decide +kernel
theorem dX10_worked_173 : decode cX10_worked 173 = .ok (.iload_n 2, 1) := by decide +kernel
theorem dX10_worked_174 : decode cX10_worked 174 = .ok (.bipush 20, 2) := by decide +kernel
theorem dX10_worked_176 : decode cX10_worked 176 = .ok (.iastore, 1) := by decide +kernel
theorem dX10_worked_177 : decode cX10_worked 177 = .ok (.goto 152, 3) := by decide +kernel
theorem dX10_worked_180 : decode cX10_worked 180 = .ok (.iload 4, 2) := by decide +kernel
theorem dX10_worked_182 : decode cX10_worked 182 = .ok (.bipush 26, 2) := by decide +kernel
theorem dX10_worked_184 : decode cX10_worked 184 = .ok (.if_icmp .eq 10, 3) := by decide +kernel
theorem dX10_worked_187 : decode cX10_worked 187 = .ok (.iload 4, 2) := by decide +kernel
theorem dX10_worked_189 : decode cX10_worked 189 = .ok (.bipush 27, 2) := by decide +kernel
theorem dX10_worked_191 : decode cX10_worked 191 = .ok (.if_icmp .ne 19, 3) := by decide +kernel
theorem dX10_worked_194 : decode cX10_worked 194 = .ok (.aload_n 0, 1) := by decide +kernel
theorem dX10_worked_195 : decode cX10_worked 195 = .ok (.iload_n 2, 1) := by decide +kernel
theorem dX10_worked_196 : decode cX10_worked 196 = .ok (.invokevirtual 233, 3) := by decide +kernel
theorem dX10_worked_199 : decode cX10_worked 199 = .ok (.aload_n 0, 1) := by decide +kernel
theorem dX10_worked_200 : decode cX10_worked 200 = .ok (.getfield 81, 3) := by decide +kernel
theorem dX10_worked_203 : decode cX10_worked 203 = .ok (.iload_n 2, 1) := by decide +kernel
theorem dX10_worked_204 : decode cX10_worked 204 = .ok (.iload 4, 2) := by decide +kernel
theorem dX10_worked_206 : decode cX10_worked 206 = .ok (.iastore, 1) := by decide +kernel
theorem dX10_worked_207 : decode cX10_worked 207 = .ok (.goto 122, 3) := by decide +kernel
theorem dX10_worked_210 : decode cX10_worked 210 = .ok (.iload 4, 2) := by decide +kernel
theorem dX10_worked_212 : decode cX10_worked 212 = .ok (.bipush 100, 2) := by decide +kernel
theorem dX10_worked_214 : decode cX10_worked 214 = .ok (.if_icmp .lt 11, 3) := by decide +kernel
theorem dX10_worked_217 : decode cX10_worked 217 = .ok (.iload 4, 2) := by decide +kernel
theorem dX10_worked_219 : decode cX10_worked 219 = .ok (.bipush 100, 2) := by decide +kernel
theorem dX10_worked_221 : decode cX10_worked 221 = .ok (.isub, 1) := by decide +kernel
theorem dX10_worked_222 : decode cX10_worked 222 = .ok (.goto 21, 3) := by decide +kernel
theorem dX10_worked_225 : decode cX10_worked 225 = .ok (.iload 4, 2) := by decide +kernel
theorem dX10_worked_227 : decode cX10_worked 227 = .ok (.bipush 20, 2) := by decide +kernel
theorem dX10_worked_229 : decode cX10_worked 229 = .ok (.if_icmp .ge 13, 3) := by decide +kernel
theorem dX10_worked_232 : decode cX10_worked 232 = .ok (.aload_n 0, 1) := by decide +kernel
theorem dX10_worked_233 : decode cX10_worked 233 = .ok (.getfield 105, 3) := by decide +kernel
theorem dX10_worked_236 : decode cX10_worked 236 = .ok (.iload 4, 2) := by decide +kernel
theorem dX10_worked_238 : decode cX10_worked 238 = .ok (.iaload, 1) := by decide +kernel
theorem dX10_worked_239 : decode cX10_worked 239 = .ok (.goto 4, 3) := by decide +kernel
theorem dX10_worked_242 : decode cX10_worked 242 = .ok (.iconst 0, 1) := by decide +kernel
theorem dX10_worked_243 : decode cX10_worked 243 = .ok (.istore 5, 2) := by decide +kernel
theorem dX10_worked_245 : decode cX10_worked 245 = .ok (.iload 4, 2) := by decide +kernel
theorem dX10_worked_247 : decode cX10_worked 247 = .ok (.bipush 29, 2) := by decide +kernel
theorem dX10_worked_249 : decode cX10_worked 249 = .ok (.if_icmp .ne 19, 3) := by decide +kernel
theorem dX10_worked_252 : decode cX10_worked 252 = .ok (.aload_n 0, 1) := by decide +kernel
theorem dX10_worked_253 : decode cX10_worked 253 = .ok (.iload_n 2, 1) := by decide +kernel
theorem dX10_worked_254 : decode cX10_worked 254 = .ok (.invokevirtual 233, 3) := by decide +kernel
theorem dX10_worked_257 : decode cX10_worked 257 = .ok (.aload_n 0, 1) := by decide +kernel
theorem dX10_worked_258 : decode cX10_worked 258 = .ok (.getfield 78, 3) := by decide +kernel
theorem dX10_worked_261 : decode cX10_worked 261 = .ok (.iload_n 2, 1) := by decide +kernel
theorem dX10_worked_262 : decode cX10_worked 262 = .ok (.iaload, 1) := by decide +kernel
theorem dX10_worked_263 : decode cX10_worked 263 = .ok (.istore 5, 2) := by decide +kernel
theorem dX10_worked_265 : decode cX10_worked 265 = .ok (.iinc 2 (-1), 3) := by decide +kernel
theorem dX10_worked_268 : decode cX10_worked 268 = .ok (.iload_n 2, 1) := by decide +kernel
theorem dX10_worked_269 : decode cX10_worked 269 = .ok (.ifCond .le 31, 3) := by decide +kernel
theorem dX10_worked_272 : decode cX10_worked 272 = .ok (.aload_n 0, 1) := by decide +kernel
theorem dX10_worked_273 : decode cX10_worked 273 = .ok (.getfield 102, 3) := by decide +kernel
theorem dX10_worked_276 : decode cX10_worked 276 = .ok (.iload_n 2, 1) := by decide +kernel
theorem dX10_worked_277 : decode cX10_worked 277 = .ok (.iaload, 1) := by decide +kernel
theorem dX10_worked_278 : decode cX10_worked 278 = .ok (.iconst 1, 1) := by decide +kernel
theorem dX10_worked_279 : decode cX10_worked 279 = .ok (.if_icmp .ne 21, 3) := by decide +kernel
theorem dX10_worked_282 : decode cX10_worked 282 = .ok (.iload 5, 2) := by decide +kernel
theorem dX10_worked_284 : decode cX10_worked 284 = .ok (.ifCond .ne 7, 3) := by decide +kernel
theorem dX10_worked_287 : decode cX10_worked 287 = .ok (.iconst 1, 1) := by decide +kernel
theorem dX10_worked_288 : decode cX10_worked 288 = .ok (.goto 4, 3) := by decide +kernel
theorem dX10_worked_291 : decode cX10_worked 291 = .ok (.iconst 0, 1) := by decide +kernel
theorem dX10_worked_292 : decode cX10_worked 292 = .ok (.istore 5, 2) := by decide +kernel
theorem dX10_worked_294 : decode cX10_worked 294 = .ok (.iinc 2 (-1), 3) := by decide +kernel
theorem dX10_worked_297 : decode cX10_worked 297 = .ok (.goto (-29), 3) := by decide +kernel
theorem dX10_worked_300 : decode cX10_worked 300 = .ok (.aload_n 0, 1) := by decide +kernel
theorem dX10_worked_301 : decode cX10_worked 301 = .ok (.getfield 96, 3) := by decide +kernel
theorem dX10_worked_304 : decode cX10_worked 304 = .ok (.iload_n 2, 1) := by decide +kernel
theorem dX10_worked_305 : decode cX10_worked 305 = .ok (.aload_n 0, 1) := by decide +kernel
theorem dX10_worked_306 : decode cX10_worked 306 = .ok (.getfield 99, 3) := by decide +kernel
theorem dX10_worked_309 : decode cX10_worked 309 = .ok (.iload_n 2, 1) := by decide +kernel
theorem dX10_worked_310 : decode cX10_worked 310 = .ok (.iaload, 1) := by decide +kernel
theorem dX10_worked_311 : decode cX10_worked 311 = .ok (.ifCond .ne 8, 3) := by decide +kernel
theorem dX10_worked_314 : decode cX10_worked 314 = .ok (.iload 5, 2) := by decide +kernel
theorem dX10_worked_316 : decode cX10_worked 316 = .ok (.goto 12, 3) := by decide +kernel
theorem dX10_worked_319 : decode cX10_worked 319 = .ok (.aload_n 0, 1) := by decide +kernel
theorem dX10_worked_320 : decode cX10_worked 320 = .ok (.getfield 96, 3) := by decide +kernel
theorem dX10_worked_323 : decode cX10_worked 323 = .ok (.iload_n 2, 1) := by decide +kernel
theorem dX10_worked_324 : decode cX10_worked 324 = .ok (.iaload, 1) := by decide +kernel
theorem dX10_worked_325 : decode cX10_worked 325 = .ok (.iload 5, 2) := by decide +kernel
theorem dX10_worked_327 : decode cX10_worked 327 = .ok (.imul, 1) := by decide +kernel
theorem dX10_worked_328 : decode cX10_worked 328 = .ok (.iastore, 1) := by decide +kernel
theorem dX10_worked_329 : decode cX10_worked 329 = .ok (.iinc 3 1, 3) := by decide +kernel
theorem dX10_worked_332 : decode cX10_worked 332 = .ok (.goto (-318), 3) := by decide +kernel
theorem dX10_worked_335 : decode cX10_worked 335 = .ok (.aload_n 0, 1) := by decide +kernel
theorem dX10_worked_336 : decode cX10_worked 336 = .ok (.iconst 0, 1) := by decide +kernel
theorem dX10_worked_337 : decode cX10_worked 337 = .ok (.invokevirtual 233, 3) := by decide +kernel
theorem dX10_worked_340 : decode cX10_worked 340 = .ok (.aload_n 0, 1) := by decide +kernel
theorem dX10_worked_341 : decode cX10_worked 341 = .ok (.getfield 78, 3) := by decide +kernel
theorem dX10_worked_344 : decode cX10_worked 344 = .ok (.iconst 0, 1) := by decide +kernel
theorem dX10_worked_345 : decode cX10_worked 345 = .ok (.iaload, 1) := by decide +kernel
theorem dX10_worked_346 : decode cX10_worked 346 = .ok (.ireturn, 1) := by decide +kernel
theorem dX10_isKept_0 : decode cX10_isKept 0 = .ok (.aload_n 0, 1) := by decide +kernel
theorem dX10_isKept_1 : decode cX10_isKept 1 = .ok (.getfield 160, 3) := by decide +kernel
theorem dX10_isKept_4 : decode cX10_isKept 4 = .ok (.iconst 1, 1) := by decide +kernel
theorem dX10_isKept_5 : decode cX10_isKept 5 = .ok (.if_icmp .eq 5, 3) := by decide +kernel
theorem dX10_isKept_8 : decode cX10_isKept 8 = .ok (.iconst 1, 1) := by decide +kernel
theorem dX10_isKept_9 : decode cX10_isKept 9 = .ok (.ireturn, 1) := by decide +kernel
theorem dX10_isKept_10 : decode cX10_isKept 10 = .ok (.aload_n 0, 1) := by decide +kernel
theorem dX10_isKept_11 : decode cX10_isKept 11 = .ok (.getfield 153, 3) := by decide +kernel
theorem dX10_isKept_14 : decode cX10_isKept 14 = .ok (.ldc2_w 236, 3) := by decide +kernel
theorem dX10_isKept_17 : decode cX10_isKept 17 = .ok (.lcmp, 1) := by decide +kernel
theorem dX10_isKept_18 : decode cX10_isKept 18 = .ok (.ifCond .eq 179, 3) := by decide +kernel
theorem dX10_isKept_21 : decode cX10_isKept 21 = .ok (.aload_n 0, 1) := by decide +kernel
theorem dX10_isKept_22 : decode cX10_isKept 22 = .ok (.getfield 153, 3) := by decide +kernel
theorem dX10_isKept_25 : decode cX10_isKept 25 = .ok (.ldc2_w 189, 3) := by decide +kernel
theorem dX10_isKept_28 : decode cX10_isKept 28 = .ok (.lcmp, 1) := by decide +kernel
theorem dX10_isKept_29 : decode cX10_isKept 29 = .ok (.ifCond .eq 168, 3) := by decide +kernel
theorem dX10_isKept_32 : decode cX10_isKept 32 = .ok (.aload_n 0, 1) := by decide +kernel
theorem dX10_isKept_33 : decode cX10_isKept 33 = .ok (.getfield 153, 3) := by decide +kernel
theorem dX10_isKept_36 : decode cX10_isKept 36 = .ok (.ldc2_w 197, 3) := by decide +kernel
theorem dX10_isKept_39 : decode cX10_isKept 39 = .ok (.lcmp, 1) := by decide +kernel
theorem dX10_isKept_40 : decode cX10_isKept 40 = .ok (.ifCond .eq 157, 3) := by decide +kernel
theorem dX10_isKept_43 : decode cX10_isKept 43 = .ok (.aload_n 0, 1) := by decide +kernel
theorem dX10_isKept_44 : decode cX10_isKept 44 = .ok (.getfield 153, 3) := by decide +kernel
theorem dX10_isKept_47 : decode cX10_isKept 47 = .ok (.ldc2_w 238, 3) := by decide +kernel
theorem dX10_isKept_50 : decode cX10_isKept 50 = .ok (.lcmp, 1) := by decide +kernel
theorem dX10_isKept_51 : decode cX10_isKept 51 = .ok (.ifCond .eq 146, 3) := by decide +kernel
theorem dX10_isKept_54 : decode cX10_isKept 54 = .ok (.aload_n 0, 1) := by decide +kernel
theorem dX10_isKept_55 : decode cX10_isKept 55 = .ok (.getfield 153, 3) := by decide +kernel
theorem dX10_isKept_58 : decode cX10_isKept 58 = .ok (.ldc2_w 183, 3) := by decide +kernel
theorem dX10_isKept_61 : decode cX10_isKept 61 = .ok (.lcmp, 1) := by decide +kernel
theorem dX10_isKept_62 : decode cX10_isKept 62 = .ok (.ifCond .eq 135, 3) := by decide +kernel
theorem dX10_isKept_65 : decode cX10_isKept 65 = .ok (.aload_n 0, 1) := by decide +kernel
theorem dX10_isKept_66 : decode cX10_isKept 66 = .ok (.getfield 153, 3) := by decide +kernel
theorem dX10_isKept_69 : decode cX10_isKept 69 = .ok (.ldc2_w 240, 3) := by decide +kernel
theorem dX10_isKept_72 : decode cX10_isKept 72 = .ok (.lcmp, 1) := by decide +kernel
theorem dX10_isKept_73 : decode cX10_isKept 73 = .ok (.ifCond .eq 124, 3) := by decide +kernel
theorem dX10_isKept_76 : decode cX10_isKept 76 = .ok (.aload_n 0, 1) := by decide +kernel
theorem dX10_isKept_77 : decode cX10_isKept 77 = .ok (.getfield 153, 3) := by decide +kernel
theorem dX10_isKept_80 : decode cX10_isKept 80 = .ok (.ldc2_w 242, 3) := by decide +kernel
theorem dX10_isKept_83 : decode cX10_isKept 83 = .ok (.lcmp, 1) := by decide +kernel
theorem dX10_isKept_84 : decode cX10_isKept 84 = .ok (.ifCond .eq 113, 3) := by decide +kernel
theorem dX10_isKept_87 : decode cX10_isKept 87 = .ok (.aload_n 0, 1) := by decide +kernel
theorem dX10_isKept_88 : decode cX10_isKept 88 = .ok (.getfield 153, 3) := by decide +kernel
theorem dX10_isKept_91 : decode cX10_isKept 91 = .ok (.ldc2_w 244, 3) := by decide +kernel
theorem dX10_isKept_94 : decode cX10_isKept 94 = .ok (.lcmp, 1) := by decide +kernel
theorem dX10_isKept_95 : decode cX10_isKept 95 = .ok (.ifCond .eq 102, 3) := by decide +kernel
theorem dX10_isKept_98 : decode cX10_isKept 98 = .ok (.aload_n 0, 1) := by decide +kernel
theorem dX10_isKept_99 : decode cX10_isKept 99 = .ok (.getfield 153, 3) := by decide +kernel
theorem dX10_isKept_102 : decode cX10_isKept 102 = .ok (.ldc2_w 246, 3) := by decide +kernel
theorem dX10_isKept_105 : decode cX10_isKept 105 = .ok (.lcmp, 1) := by decide +kernel
theorem dX10_isKept_106 : decode cX10_isKept 106 = .ok (.ifCond .eq 91, 3) := by decide +kernel
theorem dX10_isKept_109 : decode cX10_isKept 109 = .ok (.aload_n 0, 1) := by decide +kernel
theorem dX10_isKept_110 : decode cX10_isKept 110 = .ok (.getfield 153, 3) := by decide +kernel
theorem dX10_isKept_113 : decode cX10_isKept 113 = .ok (.ldc2_w 248, 3) := by decide +kernel
theorem dX10_isKept_116 : decode cX10_isKept 116 = .ok (.lcmp, 1) := by decide +kernel
theorem dX10_isKept_117 : decode cX10_isKept 117 = .ok (.ifCond .eq 80, 3) := by decide +kernel
theorem dX10_isKept_120 : decode cX10_isKept 120 = .ok (.aload_n 0, 1) := by decide +kernel
theorem dX10_isKept_121 : decode cX10_isKept 121 = .ok (.getfield 153, 3) := by decide +kernel
theorem dX10_isKept_124 : decode cX10_isKept 124 = .ok (.ldc2_w 250, 3) := by decide +kernel
theorem dX10_isKept_127 : decode cX10_isKept 127 = .ok (.lcmp, 1) := by decide +kernel
theorem dX10_isKept_128 : decode cX10_isKept 128 = .ok (.ifCond .eq 69, 3) := by decide +kernel
theorem dX10_isKept_131 : decode cX10_isKept 131 = .ok (.aload_n 0, 1) := by decide +kernel
theorem dX10_isKept_132 : decode cX10_isKept 132 = .ok (.getfield 153, 3) := by decide +kernel
theorem dX10_isKept_135 : decode cX10_isKept 135 = .ok (.ldc2_w 185, 3) := by decide +kernel
theorem dX10_isKept_138 : decode cX10_isKept 138 = .ok (.lcmp, 1) := by decide +kernel
theorem dX10_isKept_139 : decode cX10_isKept 139 = .ok (.ifCond .eq 58, 3) := by decide +kernel
theorem dX10_isKept_142 : decode cX10_isKept 142 = .ok (.aload_n 0, 1) := by decide +kernel
theorem dX10_isKept_143 : decode cX10_isKept 143 = .ok (.getfield 153, 3) := by decide +kernel
theorem dX10_isKept_146 : decode cX10_isKept 146 = .ok (.ldc2_w 252, 3) := by decide +kernel
theorem dX10_isKept_149 : decode cX10_isKept 149 = .ok (.lcmp, 1) := by decide +kernel
theorem dX10_isKept_150 : decode cX10_isKept 150 = .ok (.ifCond .eq 47, 3) := by decide +kernel
theorem dX10_isKept_153 : decode cX10_isKept 153 = .ok (.aload_n 0, 1) := by decide +kernel
theorem dX10_isKept_154 : decode cX10_isKept 154 = .ok (.getfield 153, 3) := by decide +kernel
theorem dX10_isKept_157 : decode cX10_isKept 157 = .ok (.ldc2_w 254, 3) := by decide +kernel
theorem dX10_isKept_160 : decode cX10_isKept 160 = .ok (.lcmp, 1) := by decide +kernel
theorem dX10_isKept_161 : decode cX10_isKept 161 = .ok (.ifCond .eq 36, 3) := by decide +kernel
theorem dX10_isKept_164 : decode cX10_isKept 164 = .ok (.aload_n 0, 1) := by decide +kernel
theorem dX10_isKept_165 : decode cX10_isKept 165 = .ok (.getfield 153, 3) := by decide +kernel
theorem dX10_isKept_168 : decode cX10_isKept 168 = .ok (.ldc2_w 203, 3) := by decide +kernel
theorem dX10_isKept_171 : decode cX10_isKept 171 = .ok (.lcmp, 1) := by decide +kernel
theorem dX10_isKept_172 : decode cX10_isKept 172 = .ok (.ifCond .eq 25, 3) := by decide +kernel
theorem dX10_isKept_175 : decode cX10_isKept 175 = .ok (.aload_n 0, 1) := by decide +kernel
theorem dX10_isKept_176 : decode cX10_isKept 176 = .ok (.getfield 153, 3) := by decide +kernel
theorem dX10_isKept_179 : decode cX10_isKept 179 = .ok (.ldc2_w 223, 3) := by decide +kernel
theorem dX10_isKept_182 : decode cX10_isKept 182 = .ok (.lcmp, 1) := by decide +kernel
theorem dX10_isKept_183 : decode cX10_isKept 183 = .ok (.ifCond .eq 14, 3) := by decide +kernel
theorem dX10_isKept_186 : decode cX10_isKept 186 = .ok (.aload_n 0, 1) := by decide +kernel
theorem dX10_isKept_187 : decode cX10_isKept 187 = .ok (.getfield 153, 3) := by decide +kernel
theorem dX10_isKept_190 : decode cX10_isKept 190 = .ok (.ldc2_w 225, 3) := by decide +kernel
theorem dX10_isKept_193 : decode cX10_isKept 193 = .ok (.lcmp, 1) := by decide +kernel
theorem dX10_isKept_194 : decode cX10_isKept 194 = .ok (.ifCond .ne 7, 3) := by decide +kernel
theorem dX10_isKept_197 : decode cX10_isKept 197 = .ok (.iconst 1, 1) := by decide +kernel
theorem dX10_isKept_198 : decode cX10_isKept 198 = .ok (.goto 4, 3) := by decide +kernel
theorem dX10_isKept_201 : decode cX10_isKept 201 = .ok (.iconst 0, 1) := by decide +kernel
theorem dX10_isKept_202 : decode cX10_isKept 202 = .ok (.ireturn, 1) := by decide +kernel
theorem dX10_cellNamed_0 : decode cX10_cellNamed 0 = .ok (.iconst 0, 1) := by decide +kernel
theorem dX10_cellNamed_1 : decode cX10_cellNamed 1 = .ok (.istore_n 1, 1) := by decide +kernel
theorem dX10_cellNamed_2 : decode cX10_cellNamed 2 = .ok (.iload_n 1, 1) := by decide +kernel
theorem dX10_cellNamed_3 : decode cX10_cellNamed 3 = .ok (.aload_n 0, 1) := by decide +kernel
theorem dX10_cellNamed_4 : decode cX10_cellNamed 4 = .ok (.getfield 13, 3) := by decide +kernel
theorem dX10_cellNamed_7 : decode cX10_cellNamed 7 = .ok (.iconst 1, 1) := by decide +kernel
theorem dX10_cellNamed_8 : decode cX10_cellNamed 8 = .ok (.iaload, 1) := by decide +kernel
theorem dX10_cellNamed_9 : decode cX10_cellNamed 9 = .ok (.if_icmp .ge 25, 3) := by decide +kernel
theorem dX10_cellNamed_12 : decode cX10_cellNamed 12 = .ok (.aload_n 0, 1) := by decide +kernel
theorem dX10_cellNamed_13 : decode cX10_cellNamed 13 = .ok (.getfield 28, 3) := by decide +kernel
theorem dX10_cellNamed_16 : decode cX10_cellNamed 16 = .ok (.iload_n 1, 1) := by decide +kernel
theorem dX10_cellNamed_17 : decode cX10_cellNamed 17 = .ok (.laload, 1) := by decide +kernel
theorem dX10_cellNamed_18 : decode cX10_cellNamed 18 = .ok (.aload_n 0, 1) := by decide +kernel
theorem dX10_cellNamed_19 : decode cX10_cellNamed 19 = .ok (.getfield 153, 3) := by decide +kernel
theorem dX10_cellNamed_22 : decode cX10_cellNamed 22 = .ok (.lcmp, 1) := by decide +kernel
theorem dX10_cellNamed_23 : decode cX10_cellNamed 23 = .ok (.ifCond .ne 5, 3) := by decide +kernel
theorem dX10_cellNamed_26 : decode cX10_cellNamed 26 = .ok (.iload_n 1, 1) := by decide +kernel
theorem dX10_cellNamed_27 : decode cX10_cellNamed 27 = .ok (.ireturn, 1) := by decide +kernel
theorem dX10_cellNamed_28 : decode cX10_cellNamed 28 = .ok (.iinc 1 1, 3) := by decide +kernel
theorem dX10_cellNamed_31 : decode cX10_cellNamed 31 = .ok (.goto (-29), 3) := by decide +kernel
theorem dX10_cellNamed_34 : decode cX10_cellNamed 34 = .ok (.iconst (-1), 1) := by decide +kernel
theorem dX10_cellNamed_35 : decode cX10_cellNamed 35 = .ok (.ireturn, 1) := by decide +kernel
theorem dX10_isNew_0 : decode cX10_isNew 0 = .ok (.aload_n 0, 1) := by decide +kernel
theorem dX10_isNew_1 : decode cX10_isNew 1 = .ok (.invokevirtual 256, 3) := by decide +kernel
theorem dX10_isNew_4 : decode cX10_isNew 4 = .ok (.ifCond .eq 9, 3) := by decide +kernel
theorem dX10_isNew_7 : decode cX10_isNew 7 = .ok (.aload_n 0, 1) := by decide +kernel
theorem dX10_isNew_8 : decode cX10_isNew 8 = .ok (.iconst 1, 1) := by decide +kernel
theorem dX10_isNew_9 : decode cX10_isNew 9 = .ok (.invokevirtual 213, 3) := by decide +kernel
theorem dX10_isNew_12 : decode cX10_isNew 12 = .ok (.ireturn, 1) := by decide +kernel
theorem dX10_isNew_13 : decode cX10_isNew 13 = .ok (.aload_n 0, 1) := by decide +kernel
theorem dX10_isNew_14 : decode cX10_isNew 14 = .ok (.invokevirtual 260, 3) := by decide +kernel
theorem dX10_isNew_17 : decode cX10_isNew 17 = .ok (.ifCond .ge 7, 3) := by decide +kernel
theorem dX10_isNew_20 : decode cX10_isNew 20 = .ok (.iconst 1, 1) := by decide +kernel
theorem dX10_isNew_21 : decode cX10_isNew 21 = .ok (.goto 4, 3) := by decide +kernel
theorem dX10_isNew_24 : decode cX10_isNew 24 = .ok (.iconst 0, 1) := by decide +kernel
theorem dX10_isNew_25 : decode cX10_isNew 25 = .ok (.istore_n 1, 1) := by decide +kernel
theorem dX10_isNew_26 : decode cX10_isNew 26 = .ok (.iconst 0, 1) := by decide +kernel
theorem dX10_isNew_27 : decode cX10_isNew 27 = .ok (.istore_n 2, 1) := by decide +kernel
theorem dX10_isNew_28 : decode cX10_isNew 28 = .ok (.iload_n 2, 1) := by decide +kernel
theorem dX10_isNew_29 : decode cX10_isNew 29 = .ok (.aload_n 0, 1) := by decide +kernel
theorem dX10_isNew_30 : decode cX10_isNew 30 = .ok (.getfield 19, 3) := by decide +kernel
theorem dX10_isNew_33 : decode cX10_isNew 33 = .ok (.iconst 1, 1) := by decide +kernel
theorem dX10_isNew_34 : decode cX10_isNew 34 = .ok (.iaload, 1) := by decide +kernel
theorem dX10_isNew_35 : decode cX10_isNew 35 = .ok (.if_icmp .ge 33, 3) := by decide +kernel
theorem dX10_isNew_38 : decode cX10_isNew 38 = .ok (.iload_n 1, 1) := by decide +kernel
theorem dX10_isNew_39 : decode cX10_isNew 39 = .ok (.ifCond .eq 21, 3) := by decide +kernel
theorem dX10_isNew_42 : decode cX10_isNew 42 = .ok (.aload_n 0, 1) := by decide +kernel
theorem dX10_isNew_43 : decode cX10_isNew 43 = .ok (.getfield 32, 3) := by decide +kernel
theorem dX10_isNew_46 : decode cX10_isNew 46 = .ok (.iload_n 2, 1) := by decide +kernel
theorem dX10_isNew_47 : decode cX10_isNew 47 = .ok (.laload, 1) := by decide +kernel
theorem dX10_isNew_48 : decode cX10_isNew 48 = .ok (.aload_n 0, 1) := by decide +kernel
theorem dX10_isNew_49 : decode cX10_isNew 49 = .ok (.getfield 153, 3) := by decide +kernel
theorem dX10_isNew_52 : decode cX10_isNew 52 = .ok (.lcmp, 1) := by decide +kernel
theorem dX10_isNew_53 : decode cX10_isNew 53 = .ok (.ifCond .eq 7, 3) := by decide +kernel
theorem dX10_isNew_56 : decode cX10_isNew 56 = .ok (.iconst 1, 1) := by decide +kernel
theorem dX10_isNew_57 : decode cX10_isNew 57 = .ok (.goto 4, 3) := by decide +kernel
theorem dX10_isNew_60 : decode cX10_isNew 60 = .ok (.iconst 0, 1) := by decide +kernel
theorem dX10_isNew_61 : decode cX10_isNew 61 = .ok (.istore_n 1, 1) := by decide +kernel
theorem dX10_isNew_62 : decode cX10_isNew 62 = .ok (.iinc 2 1, 3) := by decide +kernel
theorem dX10_isNew_65 : decode cX10_isNew 65 = .ok (.goto (-37), 3) := by decide +kernel
theorem dX10_isNew_68 : decode cX10_isNew 68 = .ok (.iload_n 1, 1) := by decide +kernel
theorem dX10_isNew_69 : decode cX10_isNew 69 = .ok (.ifCond .ne 11, 3) := by decide +kernel
theorem dX10_isNew_72 : decode cX10_isNew 72 = .ok (.aload_n 0, 1) := by decide +kernel
theorem dX10_isNew_73 : decode cX10_isNew 73 = .ok (.iconst 3, 1) := by decide +kernel
theorem dX10_isNew_74 : decode cX10_isNew 74 = .ok (.invokevirtual 213, 3) := by decide +kernel
theorem dX10_isNew_77 : decode cX10_isNew 77 = .ok (.ifCond .eq 7, 3) := by decide +kernel
theorem dX10_isNew_80 : decode cX10_isNew 80 = .ok (.iconst 1, 1) := by decide +kernel
theorem dX10_isNew_81 : decode cX10_isNew 81 = .ok (.goto 4, 3) := by decide +kernel
theorem dX10_isNew_84 : decode cX10_isNew 84 = .ok (.iconst 0, 1) := by decide +kernel
theorem dX10_isNew_85 : decode cX10_isNew 85 = .ok (.ireturn, 1) := by decide +kernel
theorem dX10_needsNumber_0 : decode cX10_needsNumber 0 = .ok (.aload_n 0, 1) := by decide +kernel
theorem dX10_needsNumber_1 : decode cX10_needsNumber 1 = .ok (.getfield 160, 3) := by decide +kernel
theorem dX10_needsNumber_4 : decode cX10_needsNumber 4 = .ok (.iconst 2, 1) := by decide +kernel
theorem dX10_needsNumber_5 : decode cX10_needsNumber 5 = .ok (.if_icmp .eq 9, 3) := by decide +kernel
theorem dX10_needsNumber_8 : decode cX10_needsNumber 8 = .ok (.aload_n 0, 1) := by decide +kernel
theorem dX10_needsNumber_9 : decode cX10_needsNumber 9 = .ok (.iconst 1, 1) := by decide +kernel
theorem dX10_needsNumber_10 : decode cX10_needsNumber 10 = .ok (.invokevirtual 213, 3) := by decide +kernel
theorem dX10_needsNumber_13 : decode cX10_needsNumber 13 = .ok (.ireturn, 1) := by decide +kernel
theorem dX10_needsNumber_14 : decode cX10_needsNumber 14 = .ok (.aload_n 0, 1) := by decide +kernel
theorem dX10_needsNumber_15 : decode cX10_needsNumber 15 = .ok (.getfield 157, 3) := by decide +kernel
theorem dX10_needsNumber_18 : decode cX10_needsNumber 18 = .ok (.iload_n 1, 1) := by decide +kernel
theorem dX10_needsNumber_19 : decode cX10_needsNumber 19 = .ok (.iload_n 2, 1) := by decide +kernel
theorem dX10_needsNumber_20 : decode cX10_needsNumber 20 = .ok (.invokestatic 263, 3) := by decide +kernel
theorem dX10_needsNumber_23 : decode cX10_needsNumber 23 = .ok (.ifCond .ne 9, 3) := by decide +kernel
theorem dX10_needsNumber_26 : decode cX10_needsNumber 26 = .ok (.aload_n 0, 1) := by decide +kernel
theorem dX10_needsNumber_27 : decode cX10_needsNumber 27 = .ok (.iconst 4, 1) := by decide +kernel
theorem dX10_needsNumber_28 : decode cX10_needsNumber 28 = .ok (.invokevirtual 213, 3) := by decide +kernel
theorem dX10_needsNumber_31 : decode cX10_needsNumber 31 = .ok (.ireturn, 1) := by decide +kernel
theorem dX10_needsNumber_32 : decode cX10_needsNumber 32 = .ok (.aload_n 0, 1) := by decide +kernel
theorem dX10_needsNumber_33 : decode cX10_needsNumber 33 = .ok (.aload_n 0, 1) := by decide +kernel
theorem dX10_needsNumber_34 : decode cX10_needsNumber 34 = .ok (.getfield 157, 3) := by decide +kernel
theorem dX10_needsNumber_37 : decode cX10_needsNumber 37 = .ok (.putfield 267, 3) := by decide +kernel
theorem dX10_needsNumber_40 : decode cX10_needsNumber 40 = .ok (.aload_n 0, 1) := by decide +kernel
theorem dX10_needsNumber_41 : decode cX10_needsNumber 41 = .ok (.invokevirtual 220, 3) := by decide +kernel
theorem dX10_needsNumber_44 : decode cX10_needsNumber 44 = .ok (.iconst 1, 1) := by decide +kernel
theorem dX10_needsNumber_45 : decode cX10_needsNumber 45 = .ok (.ireturn, 1) := by decide +kernel
theorem dX10_needsWord_0 : decode cX10_needsWord 0 = .ok (.aload_n 0, 1) := by decide +kernel
theorem dX10_needsWord_1 : decode cX10_needsWord 1 = .ok (.lload_n 1, 1) := by decide +kernel
theorem dX10_needsWord_2 : decode cX10_needsWord 2 = .ok (.invokevirtual 205, 3) := by decide +kernel
theorem dX10_needsWord_5 : decode cX10_needsWord 5 = .ok (.ifCond .ne 9, 3) := by decide +kernel
theorem dX10_needsWord_8 : decode cX10_needsWord 8 = .ok (.aload_n 0, 1) := by decide +kernel
theorem dX10_needsWord_9 : decode cX10_needsWord 9 = .ok (.iconst 1, 1) := by decide +kernel
theorem dX10_needsWord_10 : decode cX10_needsWord 10 = .ok (.invokevirtual 213, 3) := by decide +kernel
theorem dX10_needsWord_13 : decode cX10_needsWord 13 = .ok (.ireturn, 1) := by decide +kernel
theorem dX10_needsWord_14 : decode cX10_needsWord 14 = .ok (.aload_n 0, 1) := by decide +kernel
theorem dX10_needsWord_15 : decode cX10_needsWord 15 = .ok (.invokevirtual 220, 3) := by decide +kernel
theorem dX10_needsWord_18 : decode cX10_needsWord 18 = .ok (.iconst 1, 1) := by decide +kernel
theorem dX10_needsWord_19 : decode cX10_needsWord 19 = .ok (.ireturn, 1) := by decide +kernel
theorem dX10_needsCell_0 : decode cX10_needsCell 0 = .ok (.aload_n 0, 1) := by decide +kernel
theorem dX10_needsCell_1 : decode cX10_needsCell 1 = .ok (.invokevirtual 256, 3) := by decide +kernel
theorem dX10_needsCell_4 : decode cX10_needsCell 4 = .ok (.ifCond .eq 9, 3) := by decide +kernel
theorem dX10_needsCell_7 : decode cX10_needsCell 7 = .ok (.aload_n 0, 1) := by decide +kernel
theorem dX10_needsCell_8 : decode cX10_needsCell 8 = .ok (.iconst 1, 1) := by decide +kernel
theorem dX10_needsCell_9 : decode cX10_needsCell 9 = .ok (.invokevirtual 213, 3) := by decide +kernel
theorem dX10_needsCell_12 : decode cX10_needsCell 12 = .ok (.ireturn, 1) := by decide +kernel
theorem dX10_needsCell_13 : decode cX10_needsCell 13 = .ok (.aload_n 0, 1) := by decide +kernel
theorem dX10_needsCell_14 : decode cX10_needsCell 14 = .ok (.aload_n 0, 1) := by decide +kernel
theorem dX10_needsCell_15 : decode cX10_needsCell 15 = .ok (.invokevirtual 260, 3) := by decide +kernel
theorem dX10_needsCell_18 : decode cX10_needsCell 18 = .ok (.putfield 267, 3) := by decide +kernel
theorem dX10_needsCell_21 : decode cX10_needsCell 21 = .ok (.aload_n 0, 1) := by decide +kernel
theorem dX10_needsCell_22 : decode cX10_needsCell 22 = .ok (.getfield 267, 3) := by decide +kernel
theorem dX10_needsCell_25 : decode cX10_needsCell 25 = .ok (.ifCond .ge 9, 3) := by decide +kernel
theorem dX10_needsCell_28 : decode cX10_needsCell 28 = .ok (.aload_n 0, 1) := by decide +kernel
theorem dX10_needsCell_29 : decode cX10_needsCell 29 = .ok (.iconst 2, 1) := by decide +kernel
theorem dX10_needsCell_30 : decode cX10_needsCell 30 = .ok (.invokevirtual 213, 3) := by decide +kernel
theorem dX10_needsCell_33 : decode cX10_needsCell 33 = .ok (.ireturn, 1) := by decide +kernel
theorem dX10_needsCell_34 : decode cX10_needsCell 34 = .ok (.aload_n 0, 1) := by decide +kernel
theorem dX10_needsCell_35 : decode cX10_needsCell 35 = .ok (.invokevirtual 220, 3) := by decide +kernel
theorem dX10_needsCell_38 : decode cX10_needsCell 38 = .ok (.iconst 1, 1) := by decide +kernel
theorem dX10_needsCell_39 : decode cX10_needsCell 39 = .ok (.ireturn, 1) := by decide +kernel
theorem dX10_ends_0 : decode cX10_ends 0 = .ok (.aload_n 0, 1) := by decide +kernel
theorem dX10_ends_1 : decode cX10_ends 1 = .ok (.bipush 59, 2) := by decide +kernel
theorem dX10_ends_3 : decode cX10_ends 3 = .ok (.invokevirtual 209, 3) := by decide +kernel
theorem dX10_ends_6 : decode cX10_ends 6 = .ok (.ifCond .ne 9, 3) := by decide +kernel
theorem dX10_ends_9 : decode cX10_ends 9 = .ok (.aload_n 0, 1) := by decide +kernel
theorem dX10_ends_10 : decode cX10_ends 10 = .ok (.iconst 1, 1) := by decide +kernel
theorem dX10_ends_11 : decode cX10_ends 11 = .ok (.invokevirtual 213, 3) := by decide +kernel
theorem dX10_ends_14 : decode cX10_ends 14 = .ok (.ireturn, 1) := by decide +kernel
theorem dX10_ends_15 : decode cX10_ends 15 = .ok (.aload_n 0, 1) := by decide +kernel
theorem dX10_ends_16 : decode cX10_ends 16 = .ok (.invokevirtual 220, 3) := by decide +kernel
theorem dX10_ends_19 : decode cX10_ends 19 = .ok (.iconst 1, 1) := by decide +kernel
theorem dX10_ends_20 : decode cX10_ends 20 = .ok (.ireturn, 1) := by decide +kernel
theorem dX10_readsLaw_0 : decode cX10_readsLaw 0 = .ok (.aload_n 0, 1) := by decide +kernel
theorem dX10_readsLaw_1 : decode cX10_readsLaw 1 = .ok (.getfield 65, 3) := by decide +kernel
theorem dX10_readsLaw_4 : decode cX10_readsLaw 4 = .ok (.iconst 2, 1) := by decide +kernel
theorem dX10_readsLaw_5 : decode cX10_readsLaw 5 = .ok (.iload_n 1, 1) := by decide +kernel
theorem dX10_readsLaw_6 : decode cX10_readsLaw 6 = .ok (.iadd, 1) := by decide +kernel
theorem dX10_readsLaw_7 : decode cX10_readsLaw 7 = .ok (.iaload, 1) := by decide +kernel
theorem dX10_readsLaw_8 : decode cX10_readsLaw 8 = .ok (.aload_n 0, 1) := by decide +kernel
theorem dX10_readsLaw_9 : decode cX10_readsLaw 9 = .ok (.getfield 62, 3) := by decide +kernel
theorem dX10_readsLaw_12 : decode cX10_readsLaw 12 = .ok (.iconst 2, 1) := by decide +kernel
theorem dX10_readsLaw_13 : decode cX10_readsLaw 13 = .ok (.iload_n 1, 1) := by decide +kernel
theorem dX10_readsLaw_14 : decode cX10_readsLaw 14 = .ok (.iadd, 1) := by decide +kernel
theorem dX10_readsLaw_15 : decode cX10_readsLaw 15 = .ok (.iaload, 1) := by decide +kernel
theorem dX10_readsLaw_16 : decode cX10_readsLaw 16 = .ok (.if_icmp .le 9, 3) := by decide +kernel
theorem dX10_readsLaw_19 : decode cX10_readsLaw 19 = .ok (.aload_n 0, 1) := by decide +kernel
theorem dX10_readsLaw_20 : decode cX10_readsLaw 20 = .ok (.iconst 3, 1) := by decide +kernel
theorem dX10_readsLaw_21 : decode cX10_readsLaw 21 = .ok (.invokevirtual 213, 3) := by decide +kernel
theorem dX10_readsLaw_24 : decode cX10_readsLaw 24 = .ok (.ireturn, 1) := by decide +kernel
theorem dX10_readsLaw_25 : decode cX10_readsLaw 25 = .ok (.aload_n 0, 1) := by decide +kernel
theorem dX10_readsLaw_26 : decode cX10_readsLaw 26 = .ok (.iload_n 1, 1) := by decide +kernel
theorem dX10_readsLaw_27 : decode cX10_readsLaw 27 = .ok (.iconst 1, 1) := by decide +kernel
theorem dX10_readsLaw_28 : decode cX10_readsLaw 28 = .ok (.if_icmp .ne 7, 3) := by decide +kernel
theorem dX10_readsLaw_31 : decode cX10_readsLaw 31 = .ok (.iconst 1, 1) := by decide +kernel
theorem dX10_readsLaw_32 : decode cX10_readsLaw 32 = .ok (.goto 4, 3) := by decide +kernel
theorem dX10_readsLaw_35 : decode cX10_readsLaw 35 = .ok (.iconst 0, 1) := by decide +kernel
theorem dX10_readsLaw_36 : decode cX10_readsLaw 36 = .ok (.putfield 177, 3) := by decide +kernel
theorem dX10_readsLaw_39 : decode cX10_readsLaw 39 = .ok (.aload_n 0, 1) := by decide +kernel
theorem dX10_readsLaw_40 : decode cX10_readsLaw 40 = .ok (.invokevirtual 220, 3) := by decide +kernel
theorem dX10_readsLaw_43 : decode cX10_readsLaw 43 = .ok (.aload_n 0, 1) := by decide +kernel
theorem dX10_readsLaw_44 : decode cX10_readsLaw 44 = .ok (.getfield 62, 3) := by decide +kernel
theorem dX10_readsLaw_47 : decode cX10_readsLaw 47 = .ok (.iconst 2, 1) := by decide +kernel
theorem dX10_readsLaw_48 : decode cX10_readsLaw 48 = .ok (.iload_n 1, 1) := by decide +kernel
theorem dX10_readsLaw_49 : decode cX10_readsLaw 49 = .ok (.iadd, 1) := by decide +kernel
theorem dX10_readsLaw_50 : decode cX10_readsLaw 50 = .ok (.aload_n 0, 1) := by decide +kernel
theorem dX10_readsLaw_51 : decode cX10_readsLaw 51 = .ok (.getfield 174, 3) := by decide +kernel
theorem dX10_readsLaw_54 : decode cX10_readsLaw 54 = .ok (.iastore, 1) := by decide +kernel
theorem dX10_readsLaw_55 : decode cX10_readsLaw 55 = .ok (.aload_n 0, 1) := by decide +kernel
theorem dX10_readsLaw_56 : decode cX10_readsLaw 56 = .ok (.invokevirtual 270, 3) := by decide +kernel
theorem dX10_readsLaw_59 : decode cX10_readsLaw 59 = .ok (.ifCond .ne 5, 3) := by decide +kernel
theorem dX10_readsLaw_62 : decode cX10_readsLaw 62 = .ok (.iconst 0, 1) := by decide +kernel
theorem dX10_readsLaw_63 : decode cX10_readsLaw 63 = .ok (.ireturn, 1) := by decide +kernel
theorem dX10_readsLaw_64 : decode cX10_readsLaw 64 = .ok (.aload_n 0, 1) := by decide +kernel
theorem dX10_readsLaw_65 : decode cX10_readsLaw 65 = .ok (.getfield 65, 3) := by decide +kernel
theorem dX10_readsLaw_68 : decode cX10_readsLaw 68 = .ok (.iconst 2, 1) := by decide +kernel
theorem dX10_readsLaw_69 : decode cX10_readsLaw 69 = .ok (.iload_n 1, 1) := by decide +kernel
theorem dX10_readsLaw_70 : decode cX10_readsLaw 70 = .ok (.iadd, 1) := by decide +kernel
theorem dX10_readsLaw_71 : decode cX10_readsLaw 71 = .ok (.aload_n 0, 1) := by decide +kernel
theorem dX10_readsLaw_72 : decode cX10_readsLaw 72 = .ok (.getfield 174, 3) := by decide +kernel
theorem dX10_readsLaw_75 : decode cX10_readsLaw 75 = .ok (.iastore, 1) := by decide +kernel
theorem dX10_readsLaw_76 : decode cX10_readsLaw 76 = .ok (.iconst 1, 1) := by decide +kernel
theorem dX10_readsLaw_77 : decode cX10_readsLaw 77 = .ok (.ireturn, 1) := by decide +kernel
theorem dX10_readsMild_0 : decode cX10_readsMild 0 = .ok (.aload_n 0, 1) := by decide +kernel
theorem dX10_readsMild_1 : decode cX10_readsMild 1 = .ok (.getfield 273, 3) := by decide +kernel
theorem dX10_readsMild_4 : decode cX10_readsMild 4 = .ok (.ifCond .eq 9, 3) := by decide +kernel
theorem dX10_readsMild_7 : decode cX10_readsMild 7 = .ok (.aload_n 0, 1) := by decide +kernel
theorem dX10_readsMild_8 : decode cX10_readsMild 8 = .ok (.iconst 3, 1) := by decide +kernel
theorem dX10_readsMild_9 : decode cX10_readsMild 9 = .ok (.invokevirtual 213, 3) := by decide +kernel
theorem dX10_readsMild_12 : decode cX10_readsMild 12 = .ok (.ireturn, 1) := by decide +kernel
theorem dX10_readsMild_13 : decode cX10_readsMild 13 = .ok (.aload_n 0, 1) := by decide +kernel
theorem dX10_readsMild_14 : decode cX10_readsMild 14 = .ok (.iconst 1, 1) := by decide +kernel
theorem dX10_readsMild_15 : decode cX10_readsMild 15 = .ok (.putfield 273, 3) := by decide +kernel
theorem dX10_readsMild_18 : decode cX10_readsMild 18 = .ok (.aload_n 0, 1) := by decide +kernel
theorem dX10_readsMild_19 : decode cX10_readsMild 19 = .ok (.invokevirtual 220, 3) := by decide +kernel
theorem dX10_readsMild_22 : decode cX10_readsMild 22 = .ok (.aload_n 0, 1) := by decide +kernel
theorem dX10_readsMild_23 : decode cX10_readsMild 23 = .ok (.iconst 0, 1) := by decide +kernel
theorem dX10_readsMild_24 : decode cX10_readsMild 24 = .ok (.bipush 20, 2) := by decide +kernel
theorem dX10_readsMild_26 : decode cX10_readsMild 26 = .ok (.invokevirtual 276, 3) := by decide +kernel
theorem dX10_readsMild_29 : decode cX10_readsMild 29 = .ok (.ifCond .ne 5, 3) := by decide +kernel
theorem dX10_readsMild_32 : decode cX10_readsMild 32 = .ok (.iconst 0, 1) := by decide +kernel
theorem dX10_readsMild_33 : decode cX10_readsMild 33 = .ok (.ireturn, 1) := by decide +kernel
theorem dX10_readsMild_34 : decode cX10_readsMild 34 = .ok (.aload_n 0, 1) := by decide +kernel
theorem dX10_readsMild_35 : decode cX10_readsMild 35 = .ok (.getfield 25, 3) := by decide +kernel
theorem dX10_readsMild_38 : decode cX10_readsMild 38 = .ok (.iconst 1, 1) := by decide +kernel
theorem dX10_readsMild_39 : decode cX10_readsMild 39 = .ok (.aload_n 0, 1) := by decide +kernel
theorem dX10_readsMild_40 : decode cX10_readsMild 40 = .ok (.getfield 267, 3) := by decide +kernel
theorem dX10_readsMild_43 : decode cX10_readsMild 43 = .ok (.iastore, 1) := by decide +kernel
theorem dX10_readsMild_44 : decode cX10_readsMild 44 = .ok (.aload_n 0, 1) := by decide +kernel
theorem dX10_readsMild_45 : decode cX10_readsMild 45 = .ok (.invokevirtual 280, 3) := by decide +kernel
theorem dX10_readsMild_48 : decode cX10_readsMild 48 = .ok (.ireturn, 1) := by decide +kernel
theorem dX10_readsCell_0 : decode cX10_readsCell 0 = .ok (.aload_n 0, 1) := by decide +kernel
theorem dX10_readsCell_1 : decode cX10_readsCell 1 = .ok (.getfield 13, 3) := by decide +kernel
theorem dX10_readsCell_4 : decode cX10_readsCell 4 = .ok (.iconst 1, 1) := by decide +kernel
theorem dX10_readsCell_5 : decode cX10_readsCell 5 = .ok (.iaload, 1) := by decide +kernel
theorem dX10_readsCell_6 : decode cX10_readsCell 6 = .ok (.istore_n 1, 1) := by decide +kernel
theorem dX10_readsCell_7 : decode cX10_readsCell 7 = .ok (.iload_n 1, 1) := by decide +kernel
theorem dX10_readsCell_8 : decode cX10_readsCell 8 = .ok (.bipush 8, 2) := by decide +kernel
theorem dX10_readsCell_10 : decode cX10_readsCell 10 = .ok (.if_icmp .ne 9, 3) := by decide +kernel
theorem dX10_readsCell_13 : decode cX10_readsCell 13 = .ok (.aload_n 0, 1) := by decide +kernel
theorem dX10_readsCell_14 : decode cX10_readsCell 14 = .ok (.iconst 5, 1) := by decide +kernel
theorem dX10_readsCell_15 : decode cX10_readsCell 15 = .ok (.invokevirtual 213, 3) := by decide +kernel
theorem dX10_readsCell_18 : decode cX10_readsCell 18 = .ok (.ireturn, 1) := by decide +kernel
theorem dX10_readsCell_19 : decode cX10_readsCell 19 = .ok (.aload_n 0, 1) := by decide +kernel
theorem dX10_readsCell_20 : decode cX10_readsCell 20 = .ok (.invokevirtual 220, 3) := by decide +kernel
theorem dX10_readsCell_23 : decode cX10_readsCell 23 = .ok (.aload_n 0, 1) := by decide +kernel
theorem dX10_readsCell_24 : decode cX10_readsCell 24 = .ok (.invokevirtual 283, 3) := by decide +kernel
theorem dX10_readsCell_27 : decode cX10_readsCell 27 = .ok (.ifCond .ne 5, 3) := by decide +kernel
theorem dX10_readsCell_30 : decode cX10_readsCell 30 = .ok (.iconst 0, 1) := by decide +kernel
theorem dX10_readsCell_31 : decode cX10_readsCell 31 = .ok (.ireturn, 1) := by decide +kernel
theorem dX10_readsCell_32 : decode cX10_readsCell 32 = .ok (.aload_n 0, 1) := by decide +kernel
theorem dX10_readsCell_33 : decode cX10_readsCell 33 = .ok (.getfield 28, 3) := by decide +kernel
theorem dX10_readsCell_36 : decode cX10_readsCell 36 = .ok (.iload_n 1, 1) := by decide +kernel
theorem dX10_readsCell_37 : decode cX10_readsCell 37 = .ok (.aload_n 0, 1) := by decide +kernel
theorem dX10_readsCell_38 : decode cX10_readsCell 38 = .ok (.getfield 153, 3) := by decide +kernel
theorem dX10_readsCell_41 : decode cX10_readsCell 41 = .ok (.lastore, 1) := by decide +kernel
theorem dX10_readsCell_42 : decode cX10_readsCell 42 = .ok (.aload_n 0, 1) := by decide +kernel
theorem dX10_readsCell_43 : decode cX10_readsCell 43 = .ok (.invokevirtual 220, 3) := by decide +kernel
theorem dX10_readsCell_46 : decode cX10_readsCell 46 = .ok (.aload_n 0, 1) := by decide +kernel
theorem dX10_readsCell_47 : decode cX10_readsCell 47 = .ok (.ldc2_w 183, 3) := by decide +kernel
theorem dX10_readsCell_50 : decode cX10_readsCell 50 = .ok (.invokevirtual 286, 3) := by decide +kernel
theorem dX10_readsCell_53 : decode cX10_readsCell 53 = .ok (.ifCond .eq 13, 3) := by decide +kernel
theorem dX10_readsCell_56 : decode cX10_readsCell 56 = .ok (.aload_n 0, 1) := by decide +kernel
theorem dX10_readsCell_57 : decode cX10_readsCell 57 = .ok (.iconst 0, 1) := by decide +kernel
theorem dX10_readsCell_58 : decode cX10_readsCell 58 = .ok (.bipush 9, 2) := by decide +kernel
theorem dX10_readsCell_60 : decode cX10_readsCell 60 = .ok (.invokevirtual 276, 3) := by decide +kernel
theorem dX10_readsCell_63 : decode cX10_readsCell 63 = .ok (.ifCond .ne 5, 3) := by decide +kernel
theorem dX10_readsCell_66 : decode cX10_readsCell 66 = .ok (.iconst 0, 1) := by decide +kernel
theorem dX10_readsCell_67 : decode cX10_readsCell 67 = .ok (.ireturn, 1) := by decide +kernel
theorem dX10_readsCell_68 : decode cX10_readsCell 68 = .ok (.aload_n 0, 1) := by decide +kernel
theorem dX10_readsCell_69 : decode cX10_readsCell 69 = .ok (.getfield 35, 3) := by decide +kernel
theorem dX10_readsCell_72 : decode cX10_readsCell 72 = .ok (.bipush 8, 2) := by decide +kernel
theorem dX10_readsCell_74 : decode cX10_readsCell 74 = .ok (.iload_n 1, 1) := by decide +kernel
theorem dX10_readsCell_75 : decode cX10_readsCell 75 = .ok (.iadd, 1) := by decide +kernel
theorem dX10_readsCell_76 : decode cX10_readsCell 76 = .ok (.aload_n 0, 1) := by decide +kernel
theorem dX10_readsCell_77 : decode cX10_readsCell 77 = .ok (.getfield 267, 3) := by decide +kernel
theorem dX10_readsCell_80 : decode cX10_readsCell 80 = .ok (.iastore, 1) := by decide +kernel
theorem dX10_readsCell_81 : decode cX10_readsCell 81 = .ok (.aload_n 0, 1) := by decide +kernel
theorem dX10_readsCell_82 : decode cX10_readsCell 82 = .ok (.getfield 13, 3) := by decide +kernel
theorem dX10_readsCell_85 : decode cX10_readsCell 85 = .ok (.iconst 1, 1) := by decide +kernel
theorem dX10_readsCell_86 : decode cX10_readsCell 86 = .ok (.dup2, 1) := by decide +kernel
theorem dX10_readsCell_87 : decode cX10_readsCell 87 = .ok (.iaload, 1) := by decide +kernel
theorem dX10_readsCell_88 : decode cX10_readsCell 88 = .ok (.iconst 1, 1) := by decide +kernel
theorem dX10_readsCell_89 : decode cX10_readsCell 89 = .ok (.iadd, 1) := by decide +kernel
theorem dX10_readsCell_90 : decode cX10_readsCell 90 = .ok (.iastore, 1) := by decide +kernel
theorem dX10_readsCell_91 : decode cX10_readsCell 91 = .ok (.aload_n 0, 1) := by decide +kernel
theorem dX10_readsCell_92 : decode cX10_readsCell 92 = .ok (.invokevirtual 280, 3) := by decide +kernel
theorem dX10_readsCell_95 : decode cX10_readsCell 95 = .ok (.ireturn, 1) := by decide +kernel
theorem dX10_readsDoor_0 : decode cX10_readsDoor 0 = .ok (.bipush 10, 2) := by decide +kernel
theorem dX10_readsDoor_2 : decode cX10_readsDoor 2 = .ok (.aload_n 0, 1) := by decide +kernel
theorem dX10_readsDoor_3 : decode cX10_readsDoor 3 = .ok (.getfield 16, 3) := by decide +kernel
theorem dX10_readsDoor_6 : decode cX10_readsDoor 6 = .ok (.iconst 1, 1) := by decide +kernel
theorem dX10_readsDoor_7 : decode cX10_readsDoor 7 = .ok (.iaload, 1) := by decide +kernel
theorem dX10_readsDoor_8 : decode cX10_readsDoor 8 = .ok (.iadd, 1) := by decide +kernel
theorem dX10_readsDoor_9 : decode cX10_readsDoor 9 = .ok (.istore_n 1, 1) := by decide +kernel
theorem dX10_readsDoor_10 : decode cX10_readsDoor 10 = .ok (.aload_n 0, 1) := by decide +kernel
theorem dX10_readsDoor_11 : decode cX10_readsDoor 11 = .ok (.getfield 16, 3) := by decide +kernel
theorem dX10_readsDoor_14 : decode cX10_readsDoor 14 = .ok (.iconst 1, 1) := by decide +kernel
theorem dX10_readsDoor_15 : decode cX10_readsDoor 15 = .ok (.iaload, 1) := by decide +kernel
theorem dX10_readsDoor_16 : decode cX10_readsDoor 16 = .ok (.bipush 10, 2) := by decide +kernel
theorem dX10_readsDoor_18 : decode cX10_readsDoor 18 = .ok (.if_icmp .ne 9, 3) := by decide +kernel
theorem dX10_readsDoor_21 : decode cX10_readsDoor 21 = .ok (.aload_n 0, 1) := by decide +kernel
theorem dX10_readsDoor_22 : decode cX10_readsDoor 22 = .ok (.iconst 5, 1) := by decide +kernel
theorem dX10_readsDoor_23 : decode cX10_readsDoor 23 = .ok (.invokevirtual 213, 3) := by decide +kernel
theorem dX10_readsDoor_26 : decode cX10_readsDoor 26 = .ok (.ireturn, 1) := by decide +kernel
theorem dX10_readsDoor_27 : decode cX10_readsDoor 27 = .ok (.aload_n 0, 1) := by decide +kernel
theorem dX10_readsDoor_28 : decode cX10_readsDoor 28 = .ok (.invokevirtual 220, 3) := by decide +kernel
theorem dX10_readsDoor_31 : decode cX10_readsDoor 31 = .ok (.aload_n 0, 1) := by decide +kernel
theorem dX10_readsDoor_32 : decode cX10_readsDoor 32 = .ok (.invokevirtual 289, 3) := by decide +kernel
theorem dX10_readsDoor_35 : decode cX10_readsDoor 35 = .ok (.ifCond .ne 5, 3) := by decide +kernel
theorem dX10_readsDoor_38 : decode cX10_readsDoor 38 = .ok (.iconst 0, 1) := by decide +kernel
theorem dX10_readsDoor_39 : decode cX10_readsDoor 39 = .ok (.ireturn, 1) := by decide +kernel
theorem dX10_readsDoor_40 : decode cX10_readsDoor 40 = .ok (.aload_n 0, 1) := by decide +kernel
theorem dX10_readsDoor_41 : decode cX10_readsDoor 41 = .ok (.getfield 38, 3) := by decide +kernel
theorem dX10_readsDoor_44 : decode cX10_readsDoor 44 = .ok (.iload_n 1, 1) := by decide +kernel
theorem dX10_readsDoor_45 : decode cX10_readsDoor 45 = .ok (.aload_n 0, 1) := by decide +kernel
theorem dX10_readsDoor_46 : decode cX10_readsDoor 46 = .ok (.getfield 267, 3) := by decide +kernel
theorem dX10_readsDoor_49 : decode cX10_readsDoor 49 = .ok (.iastore, 1) := by decide +kernel
theorem dX10_readsDoor_50 : decode cX10_readsDoor 50 = .ok (.aload_n 0, 1) := by decide +kernel
theorem dX10_readsDoor_51 : decode cX10_readsDoor 51 = .ok (.ldc2_w 242, 3) := by decide +kernel
theorem dX10_readsDoor_54 : decode cX10_readsDoor 54 = .ok (.invokevirtual 286, 3) := by decide +kernel
theorem dX10_readsDoor_57 : decode cX10_readsDoor 57 = .ok (.ifCond .ne 5, 3) := by decide +kernel
theorem dX10_readsDoor_60 : decode cX10_readsDoor 60 = .ok (.iconst 0, 1) := by decide +kernel
theorem dX10_readsDoor_61 : decode cX10_readsDoor 61 = .ok (.ireturn, 1) := by decide +kernel
theorem dX10_readsDoor_62 : decode cX10_readsDoor 62 = .ok (.aload_n 0, 1) := by decide +kernel
theorem dX10_readsDoor_63 : decode cX10_readsDoor 63 = .ok (.ldc2_w 244, 3) := by decide +kernel
theorem dX10_readsDoor_66 : decode cX10_readsDoor 66 = .ok (.invokevirtual 205, 3) := by decide +kernel
theorem dX10_readsDoor_69 : decode cX10_readsDoor 69 = .ok (.ifCond .eq 17, 3) := by decide +kernel
theorem dX10_readsDoor_72 : decode cX10_readsDoor 72 = .ok (.aload_n 0, 1) := by decide +kernel
theorem dX10_readsDoor_73 : decode cX10_readsDoor 73 = .ok (.getfield 41, 3) := by decide +kernel
theorem dX10_readsDoor_76 : decode cX10_readsDoor 76 = .ok (.iload_n 1, 1) := by decide +kernel
theorem dX10_readsDoor_77 : decode cX10_readsDoor 77 = .ok (.iconst (-1), 1) := by decide +kernel
theorem dX10_readsDoor_78 : decode cX10_readsDoor 78 = .ok (.iastore, 1) := by decide +kernel
theorem dX10_readsDoor_79 : decode cX10_readsDoor 79 = .ok (.aload_n 0, 1) := by decide +kernel
theorem dX10_readsDoor_80 : decode cX10_readsDoor 80 = .ok (.invokevirtual 220, 3) := by decide +kernel
theorem dX10_readsDoor_83 : decode cX10_readsDoor 83 = .ok (.goto 48, 3) := by decide +kernel
theorem dX10_readsDoor_86 : decode cX10_readsDoor 86 = .ok (.aload_n 0, 1) := by decide +kernel
theorem dX10_readsDoor_87 : decode cX10_readsDoor 87 = .ok (.invokevirtual 256, 3) := by decide +kernel
theorem dX10_readsDoor_90 : decode cX10_readsDoor 90 = .ok (.ifCond .ne 22, 3) := by decide +kernel
theorem dX10_readsDoor_93 : decode cX10_readsDoor 93 = .ok (.aload_n 0, 1) := by decide +kernel
theorem dX10_readsDoor_94 : decode cX10_readsDoor 94 = .ok (.invokevirtual 260, 3) := by decide +kernel
theorem dX10_readsDoor_97 : decode cX10_readsDoor 97 = .ok (.aload_n 0, 1) := by decide +kernel
theorem dX10_readsDoor_98 : decode cX10_readsDoor 98 = .ok (.getfield 38, 3) := by decide +kernel
theorem dX10_readsDoor_101 : decode cX10_readsDoor 101 = .ok (.iload_n 1, 1) := by decide +kernel
theorem dX10_readsDoor_102 : decode cX10_readsDoor 102 = .ok (.iaload, 1) := by decide +kernel
theorem dX10_readsDoor_103 : decode cX10_readsDoor 103 = .ok (.if_icmp .ne 9, 3) := by decide +kernel
theorem dX10_readsDoor_106 : decode cX10_readsDoor 106 = .ok (.aload_n 0, 1) := by decide +kernel
theorem dX10_readsDoor_107 : decode cX10_readsDoor 107 = .ok (.iconst 3, 1) := by decide +kernel
theorem dX10_readsDoor_108 : decode cX10_readsDoor 108 = .ok (.invokevirtual 213, 3) := by decide +kernel
theorem dX10_readsDoor_111 : decode cX10_readsDoor 111 = .ok (.ireturn, 1) := by decide +kernel
theorem dX10_readsDoor_112 : decode cX10_readsDoor 112 = .ok (.aload_n 0, 1) := by decide +kernel
theorem dX10_readsDoor_113 : decode cX10_readsDoor 113 = .ok (.invokevirtual 289, 3) := by decide +kernel
theorem dX10_readsDoor_116 : decode cX10_readsDoor 116 = .ok (.ifCond .ne 5, 3) := by decide +kernel
theorem dX10_readsDoor_119 : decode cX10_readsDoor 119 = .ok (.iconst 0, 1) := by decide +kernel
theorem dX10_readsDoor_120 : decode cX10_readsDoor 120 = .ok (.ireturn, 1) := by decide +kernel
theorem dX10_readsDoor_121 : decode cX10_readsDoor 121 = .ok (.aload_n 0, 1) := by decide +kernel
theorem dX10_readsDoor_122 : decode cX10_readsDoor 122 = .ok (.getfield 41, 3) := by decide +kernel
theorem dX10_readsDoor_125 : decode cX10_readsDoor 125 = .ok (.iload_n 1, 1) := by decide +kernel
theorem dX10_readsDoor_126 : decode cX10_readsDoor 126 = .ok (.aload_n 0, 1) := by decide +kernel
theorem dX10_readsDoor_127 : decode cX10_readsDoor 127 = .ok (.getfield 267, 3) := by decide +kernel
theorem dX10_readsDoor_130 : decode cX10_readsDoor 130 = .ok (.iastore, 1) := by decide +kernel
theorem dX10_readsDoor_131 : decode cX10_readsDoor 131 = .ok (.aload_n 0, 1) := by decide +kernel
theorem dX10_readsDoor_132 : decode cX10_readsDoor 132 = .ok (.ldc2_w 246, 3) := by decide +kernel
theorem dX10_readsDoor_135 : decode cX10_readsDoor 135 = .ok (.invokevirtual 286, 3) := by decide +kernel
theorem dX10_readsDoor_138 : decode cX10_readsDoor 138 = .ok (.ifCond .eq 13, 3) := by decide +kernel
theorem dX10_readsDoor_141 : decode cX10_readsDoor 141 = .ok (.aload_n 0, 1) := by decide +kernel
theorem dX10_readsDoor_142 : decode cX10_readsDoor 142 = .ok (.iconst 0, 1) := by decide +kernel
theorem dX10_readsDoor_143 : decode cX10_readsDoor 143 = .ok (.bipush 99, 2) := by decide +kernel
theorem dX10_readsDoor_145 : decode cX10_readsDoor 145 = .ok (.invokevirtual 276, 3) := by decide +kernel
theorem dX10_readsDoor_148 : decode cX10_readsDoor 148 = .ok (.ifCond .ne 5, 3) := by decide +kernel
theorem dX10_readsDoor_151 : decode cX10_readsDoor 151 = .ok (.iconst 0, 1) := by decide +kernel
theorem dX10_readsDoor_152 : decode cX10_readsDoor 152 = .ok (.ireturn, 1) := by decide +kernel
theorem dX10_readsDoor_153 : decode cX10_readsDoor 153 = .ok (.aload_n 0, 1) := by decide +kernel
theorem dX10_readsDoor_154 : decode cX10_readsDoor 154 = .ok (.getfield 44, 3) := by decide +kernel
theorem dX10_readsDoor_157 : decode cX10_readsDoor 157 = .ok (.iload_n 1, 1) := by decide +kernel
theorem dX10_readsDoor_158 : decode cX10_readsDoor 158 = .ok (.aload_n 0, 1) := by decide +kernel
theorem dX10_readsDoor_159 : decode cX10_readsDoor 159 = .ok (.getfield 267, 3) := by decide +kernel
theorem dX10_readsDoor_162 : decode cX10_readsDoor 162 = .ok (.iastore, 1) := by decide +kernel
theorem dX10_readsDoor_163 : decode cX10_readsDoor 163 = .ok (.aload_n 0, 1) := by decide +kernel
theorem dX10_readsDoor_164 : decode cX10_readsDoor 164 = .ok (.getfield 16, 3) := by decide +kernel
theorem dX10_readsDoor_167 : decode cX10_readsDoor 167 = .ok (.iconst 1, 1) := by decide +kernel
theorem dX10_readsDoor_168 : decode cX10_readsDoor 168 = .ok (.dup2, 1) := by decide +kernel
theorem dX10_readsDoor_169 : decode cX10_readsDoor 169 = .ok (.iaload, 1) := by decide +kernel
theorem dX10_readsDoor_170 : decode cX10_readsDoor 170 = .ok (.iconst 1, 1) := by decide +kernel
theorem dX10_readsDoor_171 : decode cX10_readsDoor 171 = .ok (.iadd, 1) := by decide +kernel
theorem dX10_readsDoor_172 : decode cX10_readsDoor 172 = .ok (.iastore, 1) := by decide +kernel
theorem dX10_readsDoor_173 : decode cX10_readsDoor 173 = .ok (.aload_n 0, 1) := by decide +kernel
theorem dX10_readsDoor_174 : decode cX10_readsDoor 174 = .ok (.invokevirtual 280, 3) := by decide +kernel
theorem dX10_readsDoor_177 : decode cX10_readsDoor 177 = .ok (.ireturn, 1) := by decide +kernel
theorem dX10_readsMan_0 : decode cX10_readsMan 0 = .ok (.bipush 6, 2) := by decide +kernel
theorem dX10_readsMan_2 : decode cX10_readsMan 2 = .ok (.aload_n 0, 1) := by decide +kernel
theorem dX10_readsMan_3 : decode cX10_readsMan 3 = .ok (.getfield 19, 3) := by decide +kernel
theorem dX10_readsMan_6 : decode cX10_readsMan 6 = .ok (.iconst 1, 1) := by decide +kernel
theorem dX10_readsMan_7 : decode cX10_readsMan 7 = .ok (.iaload, 1) := by decide +kernel
theorem dX10_readsMan_8 : decode cX10_readsMan 8 = .ok (.iadd, 1) := by decide +kernel
theorem dX10_readsMan_9 : decode cX10_readsMan 9 = .ok (.istore_n 1, 1) := by decide +kernel
theorem dX10_readsMan_10 : decode cX10_readsMan 10 = .ok (.aload_n 0, 1) := by decide +kernel
theorem dX10_readsMan_11 : decode cX10_readsMan 11 = .ok (.getfield 19, 3) := by decide +kernel
theorem dX10_readsMan_14 : decode cX10_readsMan 14 = .ok (.iconst 1, 1) := by decide +kernel
theorem dX10_readsMan_15 : decode cX10_readsMan 15 = .ok (.iaload, 1) := by decide +kernel
theorem dX10_readsMan_16 : decode cX10_readsMan 16 = .ok (.bipush 6, 2) := by decide +kernel
theorem dX10_readsMan_18 : decode cX10_readsMan 18 = .ok (.if_icmp .ne 9, 3) := by decide +kernel
theorem dX10_readsMan_21 : decode cX10_readsMan 21 = .ok (.aload_n 0, 1) := by decide +kernel
theorem dX10_readsMan_22 : decode cX10_readsMan 22 = .ok (.iconst 5, 1) := by decide +kernel
theorem dX10_readsMan_23 : decode cX10_readsMan 23 = .ok (.invokevirtual 213, 3) := by decide +kernel
theorem dX10_readsMan_26 : decode cX10_readsMan 26 = .ok (.ireturn, 1) := by decide +kernel
theorem dX10_readsMan_27 : decode cX10_readsMan 27 = .ok (.aload_n 0, 1) := by decide +kernel
theorem dX10_readsMan_28 : decode cX10_readsMan 28 = .ok (.invokevirtual 220, 3) := by decide +kernel
theorem dX10_readsMan_31 : decode cX10_readsMan 31 = .ok (.aload_n 0, 1) := by decide +kernel
theorem dX10_readsMan_32 : decode cX10_readsMan 32 = .ok (.invokevirtual 283, 3) := by decide +kernel
theorem dX10_readsMan_35 : decode cX10_readsMan 35 = .ok (.ifCond .ne 5, 3) := by decide +kernel
theorem dX10_readsMan_38 : decode cX10_readsMan 38 = .ok (.iconst 0, 1) := by decide +kernel
theorem dX10_readsMan_39 : decode cX10_readsMan 39 = .ok (.ireturn, 1) := by decide +kernel
theorem dX10_readsMan_40 : decode cX10_readsMan 40 = .ok (.aload_n 0, 1) := by decide +kernel
theorem dX10_readsMan_41 : decode cX10_readsMan 41 = .ok (.getfield 32, 3) := by decide +kernel
theorem dX10_readsMan_44 : decode cX10_readsMan 44 = .ok (.aload_n 0, 1) := by decide +kernel
theorem dX10_readsMan_45 : decode cX10_readsMan 45 = .ok (.getfield 19, 3) := by decide +kernel
theorem dX10_readsMan_48 : decode cX10_readsMan 48 = .ok (.iconst 1, 1) := by decide +kernel
theorem dX10_readsMan_49 : decode cX10_readsMan 49 = .ok (.iaload, 1) := by decide +kernel
theorem dX10_readsMan_50 : decode cX10_readsMan 50 = .ok (.aload_n 0, 1) := by decide +kernel
theorem dX10_readsMan_51 : decode cX10_readsMan 51 = .ok (.getfield 153, 3) := by decide +kernel
theorem dX10_readsMan_54 : decode cX10_readsMan 54 = .ok (.lastore, 1) := by decide +kernel
theorem dX10_readsMan_55 : decode cX10_readsMan 55 = .ok (.aload_n 0, 1) := by decide +kernel
theorem dX10_readsMan_56 : decode cX10_readsMan 56 = .ok (.invokevirtual 220, 3) := by decide +kernel
theorem dX10_readsMan_59 : decode cX10_readsMan 59 = .ok (.aload_n 0, 1) := by decide +kernel
theorem dX10_readsMan_60 : decode cX10_readsMan 60 = .ok (.ldc2_w 250, 3) := by decide +kernel
theorem dX10_readsMan_63 : decode cX10_readsMan 63 = .ok (.invokevirtual 286, 3) := by decide +kernel
theorem dX10_readsMan_66 : decode cX10_readsMan 66 = .ok (.ifCond .eq 10, 3) := by decide +kernel
theorem dX10_readsMan_69 : decode cX10_readsMan 69 = .ok (.aload_n 0, 1) := by decide +kernel
theorem dX10_readsMan_70 : decode cX10_readsMan 70 = .ok (.invokevirtual 289, 3) := by decide +kernel
theorem dX10_readsMan_73 : decode cX10_readsMan 73 = .ok (.ifCond .ne 5, 3) := by decide +kernel
theorem dX10_readsMan_76 : decode cX10_readsMan 76 = .ok (.iconst 0, 1) := by decide +kernel
theorem dX10_readsMan_77 : decode cX10_readsMan 77 = .ok (.ireturn, 1) := by decide +kernel
theorem dX10_readsMan_78 : decode cX10_readsMan 78 = .ok (.aload_n 0, 1) := by decide +kernel
theorem dX10_readsMan_79 : decode cX10_readsMan 79 = .ok (.getfield 47, 3) := by decide +kernel
theorem dX10_readsMan_82 : decode cX10_readsMan 82 = .ok (.iload_n 1, 1) := by decide +kernel
theorem dX10_readsMan_83 : decode cX10_readsMan 83 = .ok (.aload_n 0, 1) := by decide +kernel
theorem dX10_readsMan_84 : decode cX10_readsMan 84 = .ok (.getfield 267, 3) := by decide +kernel
theorem dX10_readsMan_87 : decode cX10_readsMan 87 = .ok (.iastore, 1) := by decide +kernel
theorem dX10_readsMan_88 : decode cX10_readsMan 88 = .ok (.aload_n 0, 1) := by decide +kernel
theorem dX10_readsMan_89 : decode cX10_readsMan 89 = .ok (.ldc2_w 185, 3) := by decide +kernel
theorem dX10_readsMan_92 : decode cX10_readsMan 92 = .ok (.invokevirtual 286, 3) := by decide +kernel
theorem dX10_readsMan_95 : decode cX10_readsMan 95 = .ok (.ifCond .eq 13, 3) := by decide +kernel
theorem dX10_readsMan_98 : decode cX10_readsMan 98 = .ok (.aload_n 0, 1) := by decide +kernel
theorem dX10_readsMan_99 : decode cX10_readsMan 99 = .ok (.iconst 0, 1) := by decide +kernel
theorem dX10_readsMan_100 : decode cX10_readsMan 100 = .ok (.bipush 9, 2) := by decide +kernel
theorem dX10_readsMan_102 : decode cX10_readsMan 102 = .ok (.invokevirtual 276, 3) := by decide +kernel
theorem dX10_readsMan_105 : decode cX10_readsMan 105 = .ok (.ifCond .ne 5, 3) := by decide +kernel
theorem dX10_readsMan_108 : decode cX10_readsMan 108 = .ok (.iconst 0, 1) := by decide +kernel
theorem dX10_readsMan_109 : decode cX10_readsMan 109 = .ok (.ireturn, 1) := by decide +kernel
theorem dX10_readsMan_110 : decode cX10_readsMan 110 = .ok (.aload_n 0, 1) := by decide +kernel
theorem dX10_readsMan_111 : decode cX10_readsMan 111 = .ok (.getfield 50, 3) := by decide +kernel
theorem dX10_readsMan_114 : decode cX10_readsMan 114 = .ok (.iload_n 1, 1) := by decide +kernel
theorem dX10_readsMan_115 : decode cX10_readsMan 115 = .ok (.aload_n 0, 1) := by decide +kernel
theorem dX10_readsMan_116 : decode cX10_readsMan 116 = .ok (.getfield 267, 3) := by decide +kernel
theorem dX10_readsMan_119 : decode cX10_readsMan 119 = .ok (.iastore, 1) := by decide +kernel
theorem dX10_readsMan_120 : decode cX10_readsMan 120 = .ok (.aload_n 0, 1) := by decide +kernel
theorem dX10_readsMan_121 : decode cX10_readsMan 121 = .ok (.ldc2_w 252, 3) := by decide +kernel
theorem dX10_readsMan_124 : decode cX10_readsMan 124 = .ok (.invokevirtual 286, 3) := by decide +kernel
theorem dX10_readsMan_127 : decode cX10_readsMan 127 = .ok (.ifCond .eq 13, 3) := by decide +kernel
theorem dX10_readsMan_130 : decode cX10_readsMan 130 = .ok (.aload_n 0, 1) := by decide +kernel
theorem dX10_readsMan_131 : decode cX10_readsMan 131 = .ok (.iconst 0, 1) := by decide +kernel
theorem dX10_readsMan_132 : decode cX10_readsMan 132 = .ok (.bipush 99, 2) := by decide +kernel
theorem dX10_readsMan_134 : decode cX10_readsMan 134 = .ok (.invokevirtual 276, 3) := by decide +kernel
theorem dX10_readsMan_137 : decode cX10_readsMan 137 = .ok (.ifCond .ne 5, 3) := by decide +kernel
theorem dX10_readsMan_140 : decode cX10_readsMan 140 = .ok (.iconst 0, 1) := by decide +kernel
theorem dX10_readsMan_141 : decode cX10_readsMan 141 = .ok (.ireturn, 1) := by decide +kernel
theorem dX10_readsMan_142 : decode cX10_readsMan 142 = .ok (.aload_n 0, 1) := by decide +kernel
theorem dX10_readsMan_143 : decode cX10_readsMan 143 = .ok (.getfield 53, 3) := by decide +kernel
theorem dX10_readsMan_146 : decode cX10_readsMan 146 = .ok (.iload_n 1, 1) := by decide +kernel
theorem dX10_readsMan_147 : decode cX10_readsMan 147 = .ok (.aload_n 0, 1) := by decide +kernel
theorem dX10_readsMan_148 : decode cX10_readsMan 148 = .ok (.getfield 267, 3) := by decide +kernel
theorem dX10_readsMan_151 : decode cX10_readsMan 151 = .ok (.iastore, 1) := by decide +kernel
theorem dX10_readsMan_152 : decode cX10_readsMan 152 = .ok (.aload_n 0, 1) := by decide +kernel
theorem dX10_readsMan_153 : decode cX10_readsMan 153 = .ok (.getfield 19, 3) := by decide +kernel
theorem dX10_readsMan_156 : decode cX10_readsMan 156 = .ok (.iconst 1, 1) := by decide +kernel
theorem dX10_readsMan_157 : decode cX10_readsMan 157 = .ok (.dup2, 1) := by decide +kernel
theorem dX10_readsMan_158 : decode cX10_readsMan 158 = .ok (.iaload, 1) := by decide +kernel
theorem dX10_readsMan_159 : decode cX10_readsMan 159 = .ok (.iconst 1, 1) := by decide +kernel
theorem dX10_readsMan_160 : decode cX10_readsMan 160 = .ok (.iadd, 1) := by decide +kernel
theorem dX10_readsMan_161 : decode cX10_readsMan 161 = .ok (.iastore, 1) := by decide +kernel
theorem dX10_readsMan_162 : decode cX10_readsMan 162 = .ok (.aload_n 0, 1) := by decide +kernel
theorem dX10_readsMan_163 : decode cX10_readsMan 163 = .ok (.invokevirtual 280, 3) := by decide +kernel
theorem dX10_readsMan_166 : decode cX10_readsMan 166 = .ok (.ireturn, 1) := by decide +kernel
theorem dX10_readsGuard_0 : decode cX10_readsGuard 0 = .ok (.iconst 2, 1) := by decide +kernel
theorem dX10_readsGuard_1 : decode cX10_readsGuard 1 = .ok (.aload_n 0, 1) := by decide +kernel
theorem dX10_readsGuard_2 : decode cX10_readsGuard 2 = .ok (.getfield 22, 3) := by decide +kernel
theorem dX10_readsGuard_5 : decode cX10_readsGuard 5 = .ok (.iconst 1, 1) := by decide +kernel
theorem dX10_readsGuard_6 : decode cX10_readsGuard 6 = .ok (.iaload, 1) := by decide +kernel
theorem dX10_readsGuard_7 : decode cX10_readsGuard 7 = .ok (.iadd, 1) := by decide +kernel
theorem dX10_readsGuard_8 : decode cX10_readsGuard 8 = .ok (.istore_n 1, 1) := by decide +kernel
theorem dX10_readsGuard_9 : decode cX10_readsGuard 9 = .ok (.aload_n 0, 1) := by decide +kernel
theorem dX10_readsGuard_10 : decode cX10_readsGuard 10 = .ok (.getfield 22, 3) := by decide +kernel
theorem dX10_readsGuard_13 : decode cX10_readsGuard 13 = .ok (.iconst 1, 1) := by decide +kernel
theorem dX10_readsGuard_14 : decode cX10_readsGuard 14 = .ok (.iaload, 1) := by decide +kernel
theorem dX10_readsGuard_15 : decode cX10_readsGuard 15 = .ok (.iconst 2, 1) := by decide +kernel
theorem dX10_readsGuard_16 : decode cX10_readsGuard 16 = .ok (.if_icmp .ne 9, 3) := by decide +kernel
theorem dX10_readsGuard_19 : decode cX10_readsGuard 19 = .ok (.aload_n 0, 1) := by decide +kernel
theorem dX10_readsGuard_20 : decode cX10_readsGuard 20 = .ok (.iconst 5, 1) := by decide +kernel
theorem dX10_readsGuard_21 : decode cX10_readsGuard 21 = .ok (.invokevirtual 213, 3) := by decide +kernel
theorem dX10_readsGuard_24 : decode cX10_readsGuard 24 = .ok (.ireturn, 1) := by decide +kernel
theorem dX10_readsGuard_25 : decode cX10_readsGuard 25 = .ok (.aload_n 0, 1) := by decide +kernel
theorem dX10_readsGuard_26 : decode cX10_readsGuard 26 = .ok (.invokevirtual 220, 3) := by decide +kernel
theorem dX10_readsGuard_29 : decode cX10_readsGuard 29 = .ok (.aload_n 0, 1) := by decide +kernel
theorem dX10_readsGuard_30 : decode cX10_readsGuard 30 = .ok (.getfield 56, 3) := by decide +kernel
theorem dX10_readsGuard_33 : decode cX10_readsGuard 33 = .ok (.iload_n 1, 1) := by decide +kernel
theorem dX10_readsGuard_34 : decode cX10_readsGuard 34 = .ok (.iconst 0, 1) := by decide +kernel
theorem dX10_readsGuard_35 : decode cX10_readsGuard 35 = .ok (.iastore, 1) := by decide +kernel
theorem dX10_readsGuard_36 : decode cX10_readsGuard 36 = .ok (.aload_n 0, 1) := by decide +kernel
theorem dX10_readsGuard_37 : decode cX10_readsGuard 37 = .ok (.getfield 56, 3) := by decide +kernel
theorem dX10_readsGuard_40 : decode cX10_readsGuard 40 = .ok (.iload_n 1, 1) := by decide +kernel
theorem dX10_readsGuard_41 : decode cX10_readsGuard 41 = .ok (.iaload, 1) := by decide +kernel
theorem dX10_readsGuard_42 : decode cX10_readsGuard 42 = .ok (.ifCond .eq 11, 3) := by decide +kernel
theorem dX10_readsGuard_45 : decode cX10_readsGuard 45 = .ok (.aload_n 0, 1) := by decide +kernel
theorem dX10_readsGuard_46 : decode cX10_readsGuard 46 = .ok (.getfield 160, 3) := by decide +kernel
theorem dX10_readsGuard_49 : decode cX10_readsGuard 49 = .ok (.iconst 1, 1) := by decide +kernel
theorem dX10_readsGuard_50 : decode cX10_readsGuard 50 = .ok (.if_icmp .ne 83, 3) := by decide +kernel
theorem dX10_readsGuard_53 : decode cX10_readsGuard 53 = .ok (.aload_n 0, 1) := by decide +kernel
theorem dX10_readsGuard_54 : decode cX10_readsGuard 54 = .ok (.invokevirtual 256, 3) := by decide +kernel
theorem dX10_readsGuard_57 : decode cX10_readsGuard 57 = .ok (.ifCond .eq 9, 3) := by decide +kernel
theorem dX10_readsGuard_60 : decode cX10_readsGuard 60 = .ok (.aload_n 0, 1) := by decide +kernel
theorem dX10_readsGuard_61 : decode cX10_readsGuard 61 = .ok (.iconst 1, 1) := by decide +kernel
theorem dX10_readsGuard_62 : decode cX10_readsGuard 62 = .ok (.invokevirtual 213, 3) := by decide +kernel
theorem dX10_readsGuard_65 : decode cX10_readsGuard 65 = .ok (.ireturn, 1) := by decide +kernel
theorem dX10_readsGuard_66 : decode cX10_readsGuard 66 = .ok (.aload_n 0, 1) := by decide +kernel
theorem dX10_readsGuard_67 : decode cX10_readsGuard 67 = .ok (.invokevirtual 260, 3) := by decide +kernel
theorem dX10_readsGuard_70 : decode cX10_readsGuard 70 = .ok (.ifCond .ge 9, 3) := by decide +kernel
theorem dX10_readsGuard_73 : decode cX10_readsGuard 73 = .ok (.aload_n 0, 1) := by decide +kernel
theorem dX10_readsGuard_74 : decode cX10_readsGuard 74 = .ok (.iconst 2, 1) := by decide +kernel
theorem dX10_readsGuard_75 : decode cX10_readsGuard 75 = .ok (.invokevirtual 213, 3) := by decide +kernel
theorem dX10_readsGuard_78 : decode cX10_readsGuard 78 = .ok (.ireturn, 1) := by decide +kernel
theorem dX10_readsGuard_79 : decode cX10_readsGuard 79 = .ok (.aload_n 0, 1) := by decide +kernel
theorem dX10_readsGuard_80 : decode cX10_readsGuard 80 = .ok (.getfield 56, 3) := by decide +kernel
theorem dX10_readsGuard_83 : decode cX10_readsGuard 83 = .ok (.iload_n 1, 1) := by decide +kernel
theorem dX10_readsGuard_84 : decode cX10_readsGuard 84 = .ok (.iaload, 1) := by decide +kernel
theorem dX10_readsGuard_85 : decode cX10_readsGuard 85 = .ok (.bipush 8, 2) := by decide +kernel
theorem dX10_readsGuard_87 : decode cX10_readsGuard 87 = .ok (.if_icmp .ne 9, 3) := by decide +kernel
theorem dX10_readsGuard_90 : decode cX10_readsGuard 90 = .ok (.aload_n 0, 1) := by decide +kernel
theorem dX10_readsGuard_91 : decode cX10_readsGuard 91 = .ok (.iconst 5, 1) := by decide +kernel
theorem dX10_readsGuard_92 : decode cX10_readsGuard 92 = .ok (.invokevirtual 213, 3) := by decide +kernel
theorem dX10_readsGuard_95 : decode cX10_readsGuard 95 = .ok (.ireturn, 1) := by decide +kernel
theorem dX10_readsGuard_96 : decode cX10_readsGuard 96 = .ok (.aload_n 0, 1) := by decide +kernel
theorem dX10_readsGuard_97 : decode cX10_readsGuard 97 = .ok (.getfield 59, 3) := by decide +kernel
theorem dX10_readsGuard_100 : decode cX10_readsGuard 100 = .ok (.bipush 8, 2) := by decide +kernel
theorem dX10_readsGuard_102 : decode cX10_readsGuard 102 = .ok (.iload_n 1, 1) := by decide +kernel
theorem dX10_readsGuard_103 : decode cX10_readsGuard 103 = .ok (.imul, 1) := by decide +kernel
theorem dX10_readsGuard_104 : decode cX10_readsGuard 104 = .ok (.aload_n 0, 1) := by decide +kernel
theorem dX10_readsGuard_105 : decode cX10_readsGuard 105 = .ok (.getfield 56, 3) := by decide +kernel
theorem dX10_readsGuard_108 : decode cX10_readsGuard 108 = .ok (.iload_n 1, 1) := by decide +kernel
theorem dX10_readsGuard_109 : decode cX10_readsGuard 109 = .ok (.iaload, 1) := by decide +kernel
theorem dX10_readsGuard_110 : decode cX10_readsGuard 110 = .ok (.iadd, 1) := by decide +kernel
theorem dX10_readsGuard_111 : decode cX10_readsGuard 111 = .ok (.aload_n 0, 1) := by decide +kernel
theorem dX10_readsGuard_112 : decode cX10_readsGuard 112 = .ok (.invokevirtual 260, 3) := by decide +kernel
theorem dX10_readsGuard_115 : decode cX10_readsGuard 115 = .ok (.iastore, 1) := by decide +kernel
theorem dX10_readsGuard_116 : decode cX10_readsGuard 116 = .ok (.aload_n 0, 1) := by decide +kernel
theorem dX10_readsGuard_117 : decode cX10_readsGuard 117 = .ok (.getfield 56, 3) := by decide +kernel
theorem dX10_readsGuard_120 : decode cX10_readsGuard 120 = .ok (.iload_n 1, 1) := by decide +kernel
theorem dX10_readsGuard_121 : decode cX10_readsGuard 121 = .ok (.dup2, 1) := by decide +kernel
theorem dX10_readsGuard_122 : decode cX10_readsGuard 122 = .ok (.iaload, 1) := by decide +kernel
theorem dX10_readsGuard_123 : decode cX10_readsGuard 123 = .ok (.iconst 1, 1) := by decide +kernel
theorem dX10_readsGuard_124 : decode cX10_readsGuard 124 = .ok (.iadd, 1) := by decide +kernel
theorem dX10_readsGuard_125 : decode cX10_readsGuard 125 = .ok (.iastore, 1) := by decide +kernel
theorem dX10_readsGuard_126 : decode cX10_readsGuard 126 = .ok (.aload_n 0, 1) := by decide +kernel
theorem dX10_readsGuard_127 : decode cX10_readsGuard 127 = .ok (.invokevirtual 220, 3) := by decide +kernel
theorem dX10_readsGuard_130 : decode cX10_readsGuard 130 = .ok (.goto (-94), 3) := by decide +kernel
theorem dX10_readsGuard_133 : decode cX10_readsGuard 133 = .ok (.aload_n 0, 1) := by decide +kernel
theorem dX10_readsGuard_134 : decode cX10_readsGuard 134 = .ok (.getfield 22, 3) := by decide +kernel
theorem dX10_readsGuard_137 : decode cX10_readsGuard 137 = .ok (.iconst 1, 1) := by decide +kernel
theorem dX10_readsGuard_138 : decode cX10_readsGuard 138 = .ok (.dup2, 1) := by decide +kernel
theorem dX10_readsGuard_139 : decode cX10_readsGuard 139 = .ok (.iaload, 1) := by decide +kernel
theorem dX10_readsGuard_140 : decode cX10_readsGuard 140 = .ok (.iconst 1, 1) := by decide +kernel
theorem dX10_readsGuard_141 : decode cX10_readsGuard 141 = .ok (.iadd, 1) := by decide +kernel
theorem dX10_readsGuard_142 : decode cX10_readsGuard 142 = .ok (.iastore, 1) := by decide +kernel
theorem dX10_readsGuard_143 : decode cX10_readsGuard 143 = .ok (.aload_n 0, 1) := by decide +kernel
theorem dX10_readsGuard_144 : decode cX10_readsGuard 144 = .ok (.invokevirtual 280, 3) := by decide +kernel
theorem dX10_readsGuard_147 : decode cX10_readsGuard 147 = .ok (.ireturn, 1) := by decide +kernel
theorem dX10_readsAll_0 : decode cX10_readsAll 0 = .ok (.aload_n 0, 1) := by decide +kernel
theorem dX10_readsAll_1 : decode cX10_readsAll 1 = .ok (.getfield 13, 3) := by decide +kernel
theorem dX10_readsAll_4 : decode cX10_readsAll 4 = .ok (.iconst 1, 1) := by decide +kernel
theorem dX10_readsAll_5 : decode cX10_readsAll 5 = .ok (.iconst 0, 1) := by decide +kernel
theorem dX10_readsAll_6 : decode cX10_readsAll 6 = .ok (.iastore, 1) := by decide +kernel
theorem dX10_readsAll_7 : decode cX10_readsAll 7 = .ok (.aload_n 0, 1) := by decide +kernel
theorem dX10_readsAll_8 : decode cX10_readsAll 8 = .ok (.getfield 16, 3) := by decide +kernel
theorem dX10_readsAll_11 : decode cX10_readsAll 11 = .ok (.iconst 1, 1) := by decide +kernel
theorem dX10_readsAll_12 : decode cX10_readsAll 12 = .ok (.iconst 0, 1) := by decide +kernel
theorem dX10_readsAll_13 : decode cX10_readsAll 13 = .ok (.iastore, 1) := by decide +kernel
theorem dX10_readsAll_14 : decode cX10_readsAll 14 = .ok (.aload_n 0, 1) := by decide +kernel
theorem dX10_readsAll_15 : decode cX10_readsAll 15 = .ok (.getfield 19, 3) := by decide +kernel
theorem dX10_readsAll_18 : decode cX10_readsAll 18 = .ok (.iconst 1, 1) := by decide +kernel
theorem dX10_readsAll_19 : decode cX10_readsAll 19 = .ok (.iconst 0, 1) := by decide +kernel
theorem dX10_readsAll_20 : decode cX10_readsAll 20 = .ok (.iastore, 1) := by decide +kernel
theorem dX10_readsAll_21 : decode cX10_readsAll 21 = .ok (.aload_n 0, 1) := by decide +kernel
theorem dX10_readsAll_22 : decode cX10_readsAll 22 = .ok (.getfield 22, 3) := by decide +kernel
theorem dX10_readsAll_25 : decode cX10_readsAll 25 = .ok (.iconst 1, 1) := by decide +kernel
theorem dX10_readsAll_26 : decode cX10_readsAll 26 = .ok (.iconst 0, 1) := by decide +kernel
theorem dX10_readsAll_27 : decode cX10_readsAll 27 = .ok (.iastore, 1) := by decide +kernel
theorem dX10_readsAll_28 : decode cX10_readsAll 28 = .ok (.aload_n 0, 1) := by decide +kernel
theorem dX10_readsAll_29 : decode cX10_readsAll 29 = .ok (.getfield 25, 3) := by decide +kernel
theorem dX10_readsAll_32 : decode cX10_readsAll 32 = .ok (.iconst 1, 1) := by decide +kernel
theorem dX10_readsAll_33 : decode cX10_readsAll 33 = .ok (.iconst 0, 1) := by decide +kernel
theorem dX10_readsAll_34 : decode cX10_readsAll 34 = .ok (.iastore, 1) := by decide +kernel
theorem dX10_readsAll_35 : decode cX10_readsAll 35 = .ok (.aload_n 0, 1) := by decide +kernel
theorem dX10_readsAll_36 : decode cX10_readsAll 36 = .ok (.iconst 0, 1) := by decide +kernel
theorem dX10_readsAll_37 : decode cX10_readsAll 37 = .ok (.putfield 273, 3) := by decide +kernel
theorem dX10_readsAll_40 : decode cX10_readsAll 40 = .ok (.aload_n 0, 1) := by decide +kernel
theorem dX10_readsAll_41 : decode cX10_readsAll 41 = .ok (.sipush 1000, 3) := by decide +kernel
theorem dX10_readsAll_44 : decode cX10_readsAll 44 = .ok (.putfield 174, 3) := by decide +kernel
theorem dX10_readsAll_47 : decode cX10_readsAll 47 = .ok (.iconst 2, 1) := by decide +kernel
theorem dX10_readsAll_48 : decode cX10_readsAll 48 = .ok (.istore_n 1, 1) := by decide +kernel
theorem dX10_readsAll_49 : decode cX10_readsAll 49 = .ok (.iload_n 1, 1) := by decide +kernel
theorem dX10_readsAll_50 : decode cX10_readsAll 50 = .ok (.iconst 4, 1) := by decide +kernel
theorem dX10_readsAll_51 : decode cX10_readsAll 51 = .ok (.if_icmp .ge 27, 3) := by decide +kernel
theorem dX10_readsAll_54 : decode cX10_readsAll 54 = .ok (.aload_n 0, 1) := by decide +kernel
theorem dX10_readsAll_55 : decode cX10_readsAll 55 = .ok (.getfield 62, 3) := by decide +kernel
theorem dX10_readsAll_58 : decode cX10_readsAll 58 = .ok (.iload_n 1, 1) := by decide +kernel
theorem dX10_readsAll_59 : decode cX10_readsAll 59 = .ok (.sipush 1000, 3) := by decide +kernel
theorem dX10_readsAll_62 : decode cX10_readsAll 62 = .ok (.iastore, 1) := by decide +kernel
theorem dX10_readsAll_63 : decode cX10_readsAll 63 = .ok (.aload_n 0, 1) := by decide +kernel
theorem dX10_readsAll_64 : decode cX10_readsAll 64 = .ok (.getfield 65, 3) := by decide +kernel
theorem dX10_readsAll_67 : decode cX10_readsAll 67 = .ok (.iload_n 1, 1) := by decide +kernel
theorem dX10_readsAll_68 : decode cX10_readsAll 68 = .ok (.sipush 1000, 3) := by decide +kernel
theorem dX10_readsAll_71 : decode cX10_readsAll 71 = .ok (.iastore, 1) := by decide +kernel
theorem dX10_readsAll_72 : decode cX10_readsAll 72 = .ok (.iinc 1 1, 3) := by decide +kernel
theorem dX10_readsAll_75 : decode cX10_readsAll 75 = .ok (.goto (-26), 3) := by decide +kernel
theorem dX10_readsAll_78 : decode cX10_readsAll 78 = .ok (.aload_n 0, 1) := by decide +kernel
theorem dX10_readsAll_79 : decode cX10_readsAll 79 = .ok (.aload_n 0, 1) := by decide +kernel
theorem dX10_readsAll_80 : decode cX10_readsAll 80 = .ok (.getfield 141, 3) := by decide +kernel
theorem dX10_readsAll_83 : decode cX10_readsAll 83 = .ok (.putfield 144, 3) := by decide +kernel
theorem dX10_readsAll_86 : decode cX10_readsAll 86 = .ok (.aload_n 0, 1) := by decide +kernel
theorem dX10_readsAll_87 : decode cX10_readsAll 87 = .ok (.iconst 0, 1) := by decide +kernel
theorem dX10_readsAll_88 : decode cX10_readsAll 88 = .ok (.putfield 141, 3) := by decide +kernel
theorem dX10_readsAll_91 : decode cX10_readsAll 91 = .ok (.aload_n 0, 1) := by decide +kernel
theorem dX10_readsAll_92 : decode cX10_readsAll 92 = .ok (.iconst 0, 1) := by decide +kernel
theorem dX10_readsAll_93 : decode cX10_readsAll 93 = .ok (.putfield 147, 3) := by decide +kernel
theorem dX10_readsAll_96 : decode cX10_readsAll 96 = .ok (.aload_n 0, 1) := by decide +kernel
theorem dX10_readsAll_97 : decode cX10_readsAll 97 = .ok (.invokevirtual 220, 3) := by decide +kernel
theorem dX10_readsAll_100 : decode cX10_readsAll 100 = .ok (.aload_n 0, 1) := by decide +kernel
theorem dX10_readsAll_101 : decode cX10_readsAll 101 = .ok (.getfield 160, 3) := by decide +kernel
theorem dX10_readsAll_104 : decode cX10_readsAll 104 = .ok (.ifCond .eq 139, 3) := by decide +kernel
theorem dX10_readsAll_107 : decode cX10_readsAll 107 = .ok (.aload_n 0, 1) := by decide +kernel
theorem dX10_readsAll_108 : decode cX10_readsAll 108 = .ok (.ldc2_w 236, 3) := by decide +kernel
theorem dX10_readsAll_111 : decode cX10_readsAll 111 = .ok (.invokevirtual 205, 3) := by decide +kernel
theorem dX10_readsAll_114 : decode cX10_readsAll 114 = .ok (.ifCond .eq 11, 3) := by decide +kernel
theorem dX10_readsAll_117 : decode cX10_readsAll 117 = .ok (.aload_n 0, 1) := by decide +kernel
theorem dX10_readsAll_118 : decode cX10_readsAll 118 = .ok (.iconst 0, 1) := by decide +kernel
theorem dX10_readsAll_119 : decode cX10_readsAll 119 = .ok (.invokevirtual 292, 3) := by decide +kernel
theorem dX10_readsAll_122 : decode cX10_readsAll 122 = .ok (.goto 111, 3) := by decide +kernel
theorem dX10_readsAll_125 : decode cX10_readsAll 125 = .ok (.aload_n 0, 1) := by decide +kernel
theorem dX10_readsAll_126 : decode cX10_readsAll 126 = .ok (.ldc2_w 189, 3) := by decide +kernel
theorem dX10_readsAll_129 : decode cX10_readsAll 129 = .ok (.invokevirtual 205, 3) := by decide +kernel
theorem dX10_readsAll_132 : decode cX10_readsAll 132 = .ok (.ifCond .eq 11, 3) := by decide +kernel
theorem dX10_readsAll_135 : decode cX10_readsAll 135 = .ok (.aload_n 0, 1) := by decide +kernel
theorem dX10_readsAll_136 : decode cX10_readsAll 136 = .ok (.iconst 1, 1) := by decide +kernel
theorem dX10_readsAll_137 : decode cX10_readsAll 137 = .ok (.invokevirtual 292, 3) := by decide +kernel
theorem dX10_readsAll_140 : decode cX10_readsAll 140 = .ok (.goto 93, 3) := by decide +kernel
theorem dX10_readsAll_143 : decode cX10_readsAll 143 = .ok (.aload_n 0, 1) := by decide +kernel
theorem dX10_readsAll_144 : decode cX10_readsAll 144 = .ok (.ldc2_w 197, 3) := by decide +kernel
theorem dX10_readsAll_147 : decode cX10_readsAll 147 = .ok (.invokevirtual 205, 3) := by decide +kernel
theorem dX10_readsAll_150 : decode cX10_readsAll 150 = .ok (.ifCond .eq 10, 3) := by decide +kernel
theorem dX10_readsAll_153 : decode cX10_readsAll 153 = .ok (.aload_n 0, 1) := by decide +kernel
theorem dX10_readsAll_154 : decode cX10_readsAll 154 = .ok (.invokevirtual 295, 3) := by decide +kernel
theorem dX10_readsAll_157 : decode cX10_readsAll 157 = .ok (.goto 76, 3) := by decide +kernel
theorem dX10_readsAll_160 : decode cX10_readsAll 160 = .ok (.aload_n 0, 1) := by decide +kernel
theorem dX10_readsAll_161 : decode cX10_readsAll 161 = .ok (.ldc2_w 238, 3) := by decide +kernel
theorem dX10_readsAll_164 : decode cX10_readsAll 164 = .ok (.invokevirtual 205, 3) := by decide +kernel
theorem dX10_readsAll_167 : decode cX10_readsAll 167 = .ok (.ifCond .eq 10, 3) := by decide +kernel
theorem dX10_readsAll_170 : decode cX10_readsAll 170 = .ok (.aload_n 0, 1) := by decide +kernel
theorem dX10_readsAll_171 : decode cX10_readsAll 171 = .ok (.invokevirtual 298, 3) := by decide +kernel
theorem dX10_readsAll_174 : decode cX10_readsAll 174 = .ok (.goto 59, 3) := by decide +kernel
theorem dX10_readsAll_177 : decode cX10_readsAll 177 = .ok (.aload_n 0, 1) := by decide +kernel
theorem dX10_readsAll_178 : decode cX10_readsAll 178 = .ok (.ldc2_w 240, 3) := by decide +kernel
theorem dX10_readsAll_181 : decode cX10_readsAll 181 = .ok (.invokevirtual 205, 3) := by decide +kernel
theorem dX10_readsAll_184 : decode cX10_readsAll 184 = .ok (.ifCond .eq 10, 3) := by decide +kernel
theorem dX10_readsAll_187 : decode cX10_readsAll 187 = .ok (.aload_n 0, 1) := by decide +kernel
theorem dX10_readsAll_188 : decode cX10_readsAll 188 = .ok (.invokevirtual 301, 3) := by decide +kernel
theorem dX10_readsAll_191 : decode cX10_readsAll 191 = .ok (.goto 42, 3) := by decide +kernel
theorem dX10_readsAll_194 : decode cX10_readsAll 194 = .ok (.aload_n 0, 1) := by decide +kernel
theorem dX10_readsAll_195 : decode cX10_readsAll 195 = .ok (.ldc2_w 248, 3) := by decide +kernel
theorem dX10_readsAll_198 : decode cX10_readsAll 198 = .ok (.invokevirtual 205, 3) := by decide +kernel
theorem dX10_readsAll_201 : decode cX10_readsAll 201 = .ok (.ifCond .eq 10, 3) := by decide +kernel
theorem dX10_readsAll_204 : decode cX10_readsAll 204 = .ok (.aload_n 0, 1) := by decide +kernel
theorem dX10_readsAll_205 : decode cX10_readsAll 205 = .ok (.invokevirtual 304, 3) := by decide +kernel
theorem dX10_readsAll_208 : decode cX10_readsAll 208 = .ok (.goto 25, 3) := by decide +kernel
theorem dX10_readsAll_211 : decode cX10_readsAll 211 = .ok (.aload_n 0, 1) := by decide +kernel
theorem dX10_readsAll_212 : decode cX10_readsAll 212 = .ok (.ldc2_w 254, 3) := by decide +kernel
theorem dX10_readsAll_215 : decode cX10_readsAll 215 = .ok (.invokevirtual 205, 3) := by decide +kernel
theorem dX10_readsAll_218 : decode cX10_readsAll 218 = .ok (.ifCond .eq 10, 3) := by decide +kernel
theorem dX10_readsAll_221 : decode cX10_readsAll 221 = .ok (.aload_n 0, 1) := by decide +kernel
theorem dX10_readsAll_222 : decode cX10_readsAll 222 = .ok (.invokevirtual 307, 3) := by decide +kernel
theorem dX10_readsAll_225 : decode cX10_readsAll 225 = .ok (.goto 8, 3) := by decide +kernel
theorem dX10_readsAll_228 : decode cX10_readsAll 228 = .ok (.aload_n 0, 1) := by decide +kernel
theorem dX10_readsAll_229 : decode cX10_readsAll 229 = .ok (.iconst 1, 1) := by decide +kernel
theorem dX10_readsAll_230 : decode cX10_readsAll 230 = .ok (.invokevirtual 213, 3) := by decide +kernel
theorem dX10_readsAll_233 : decode cX10_readsAll 233 = .ok (.istore_n 1, 1) := by decide +kernel
theorem dX10_readsAll_234 : decode cX10_readsAll 234 = .ok (.iload_n 1, 1) := by decide +kernel
theorem dX10_readsAll_235 : decode cX10_readsAll 235 = .ok (.ifCond .ne 5, 3) := by decide +kernel
theorem dX10_readsAll_238 : decode cX10_readsAll 238 = .ok (.iconst 0, 1) := by decide +kernel
theorem dX10_readsAll_239 : decode cX10_readsAll 239 = .ok (.ireturn, 1) := by decide +kernel
theorem dX10_readsAll_240 : decode cX10_readsAll 240 = .ok (.goto (-140), 3) := by decide +kernel
theorem dX10_readsAll_243 : decode cX10_readsAll 243 = .ok (.iconst 1, 1) := by decide +kernel
theorem dX10_readsAll_244 : decode cX10_readsAll 244 = .ok (.ireturn, 1) := by decide +kernel
theorem dX10_moves_0 : decode cX10_moves 0 = .ok (.iconst 0, 1) := by decide +kernel
theorem dX10_moves_1 : decode cX10_moves 1 = .ok (.istore 4, 2) := by decide +kernel
theorem dX10_moves_3 : decode cX10_moves 3 = .ok (.iload 4, 2) := by decide +kernel
theorem dX10_moves_5 : decode cX10_moves 5 = .ok (.iload_n 1, 1) := by decide +kernel
theorem dX10_moves_6 : decode cX10_moves 6 = .ok (.if_icmp .ge 25, 3) := by decide +kernel
theorem dX10_moves_9 : decode cX10_moves 9 = .ok (.aload_n 0, 1) := by decide +kernel
theorem dX10_moves_10 : decode cX10_moves 10 = .ok (.iload_n 1, 1) := by decide +kernel
theorem dX10_moves_11 : decode cX10_moves 11 = .ok (.iload_n 3, 1) := by decide +kernel
theorem dX10_moves_12 : decode cX10_moves 12 = .ok (.imul, 1) := by decide +kernel
theorem dX10_moves_13 : decode cX10_moves 13 = .ok (.iload 4, 2) := by decide +kernel
theorem dX10_moves_15 : decode cX10_moves 15 = .ok (.iadd, 1) := by decide +kernel
theorem dX10_moves_16 : decode cX10_moves 16 = .ok (.aload_n 0, 1) := by decide +kernel
theorem dX10_moves_17 : decode cX10_moves 17 = .ok (.iload_n 1, 1) := by decide +kernel
theorem dX10_moves_18 : decode cX10_moves 18 = .ok (.iload_n 2, 1) := by decide +kernel
theorem dX10_moves_19 : decode cX10_moves 19 = .ok (.imul, 1) := by decide +kernel
theorem dX10_moves_20 : decode cX10_moves 20 = .ok (.iload 4, 2) := by decide +kernel
theorem dX10_moves_22 : decode cX10_moves 22 = .ok (.iadd, 1) := by decide +kernel
theorem dX10_moves_23 : decode cX10_moves 23 = .ok (.iaload, 1) := by decide +kernel
theorem dX10_moves_24 : decode cX10_moves 24 = .ok (.iastore, 1) := by decide +kernel
theorem dX10_moves_25 : decode cX10_moves 25 = .ok (.iinc 4 1, 3) := by decide +kernel
theorem dX10_moves_28 : decode cX10_moves 28 = .ok (.goto (-25), 3) := by decide +kernel
theorem dX10_moves_31 : decode cX10_moves 31 = .ok (.return_, 1) := by decide +kernel
theorem dX10_lays_0 : decode cX10_lays 0 = .ok (.aload_n 0, 1) := by decide +kernel
theorem dX10_lays_1 : decode cX10_lays 1 = .ok (.getfield 13, 3) := by decide +kernel
theorem dX10_lays_4 : decode cX10_lays 4 = .ok (.iconst 1, 1) := by decide +kernel
theorem dX10_lays_5 : decode cX10_lays 5 = .ok (.iload_n 1, 1) := by decide +kernel
theorem dX10_lays_6 : decode cX10_lays 6 = .ok (.iload_n 2, 1) := by decide +kernel
theorem dX10_lays_7 : decode cX10_lays 7 = .ok (.invokestatic 310, 3) := by decide +kernel
theorem dX10_lays_10 : decode cX10_lays 10 = .ok (.aload_n 0, 1) := by decide +kernel
theorem dX10_lays_11 : decode cX10_lays 11 = .ok (.getfield 16, 3) := by decide +kernel
theorem dX10_lays_14 : decode cX10_lays 14 = .ok (.iconst 1, 1) := by decide +kernel
theorem dX10_lays_15 : decode cX10_lays 15 = .ok (.iload_n 1, 1) := by decide +kernel
theorem dX10_lays_16 : decode cX10_lays 16 = .ok (.iload_n 2, 1) := by decide +kernel
theorem dX10_lays_17 : decode cX10_lays 17 = .ok (.invokestatic 310, 3) := by decide +kernel
theorem dX10_lays_20 : decode cX10_lays 20 = .ok (.aload_n 0, 1) := by decide +kernel
theorem dX10_lays_21 : decode cX10_lays 21 = .ok (.getfield 19, 3) := by decide +kernel
theorem dX10_lays_24 : decode cX10_lays 24 = .ok (.iconst 1, 1) := by decide +kernel
theorem dX10_lays_25 : decode cX10_lays 25 = .ok (.iload_n 1, 1) := by decide +kernel
theorem dX10_lays_26 : decode cX10_lays 26 = .ok (.iload_n 2, 1) := by decide +kernel
theorem dX10_lays_27 : decode cX10_lays 27 = .ok (.invokestatic 310, 3) := by decide +kernel
theorem dX10_lays_30 : decode cX10_lays 30 = .ok (.aload_n 0, 1) := by decide +kernel
theorem dX10_lays_31 : decode cX10_lays 31 = .ok (.getfield 22, 3) := by decide +kernel
theorem dX10_lays_34 : decode cX10_lays 34 = .ok (.iconst 1, 1) := by decide +kernel
theorem dX10_lays_35 : decode cX10_lays 35 = .ok (.iload_n 1, 1) := by decide +kernel
theorem dX10_lays_36 : decode cX10_lays 36 = .ok (.iload_n 2, 1) := by decide +kernel
theorem dX10_lays_37 : decode cX10_lays 37 = .ok (.invokestatic 310, 3) := by decide +kernel
theorem dX10_lays_40 : decode cX10_lays 40 = .ok (.aload_n 0, 1) := by decide +kernel
theorem dX10_lays_41 : decode cX10_lays 41 = .ok (.getfield 25, 3) := by decide +kernel
theorem dX10_lays_44 : decode cX10_lays 44 = .ok (.iconst 1, 1) := by decide +kernel
theorem dX10_lays_45 : decode cX10_lays 45 = .ok (.iload_n 1, 1) := by decide +kernel
theorem dX10_lays_46 : decode cX10_lays 46 = .ok (.iload_n 2, 1) := by decide +kernel
theorem dX10_lays_47 : decode cX10_lays 47 = .ok (.invokestatic 310, 3) := by decide +kernel
theorem dX10_lays_50 : decode cX10_lays 50 = .ok (.aload_n 0, 1) := by decide +kernel
theorem dX10_lays_51 : decode cX10_lays 51 = .ok (.getfield 35, 3) := by decide +kernel
theorem dX10_lays_54 : decode cX10_lays 54 = .ok (.bipush 8, 2) := by decide +kernel
theorem dX10_lays_56 : decode cX10_lays 56 = .ok (.iload_n 1, 1) := by decide +kernel
theorem dX10_lays_57 : decode cX10_lays 57 = .ok (.iload_n 2, 1) := by decide +kernel
theorem dX10_lays_58 : decode cX10_lays 58 = .ok (.invokestatic 310, 3) := by decide +kernel
theorem dX10_lays_61 : decode cX10_lays 61 = .ok (.aload_n 0, 1) := by decide +kernel
theorem dX10_lays_62 : decode cX10_lays 62 = .ok (.getfield 38, 3) := by decide +kernel
theorem dX10_lays_65 : decode cX10_lays 65 = .ok (.bipush 10, 2) := by decide +kernel
theorem dX10_lays_67 : decode cX10_lays 67 = .ok (.iload_n 1, 1) := by decide +kernel
theorem dX10_lays_68 : decode cX10_lays 68 = .ok (.iload_n 2, 1) := by decide +kernel
theorem dX10_lays_69 : decode cX10_lays 69 = .ok (.invokestatic 310, 3) := by decide +kernel
theorem dX10_lays_72 : decode cX10_lays 72 = .ok (.aload_n 0, 1) := by decide +kernel
theorem dX10_lays_73 : decode cX10_lays 73 = .ok (.getfield 41, 3) := by decide +kernel
theorem dX10_lays_76 : decode cX10_lays 76 = .ok (.bipush 10, 2) := by decide +kernel
theorem dX10_lays_78 : decode cX10_lays 78 = .ok (.iload_n 1, 1) := by decide +kernel
theorem dX10_lays_79 : decode cX10_lays 79 = .ok (.iload_n 2, 1) := by decide +kernel
theorem dX10_lays_80 : decode cX10_lays 80 = .ok (.invokestatic 310, 3) := by decide +kernel
theorem dX10_lays_83 : decode cX10_lays 83 = .ok (.aload_n 0, 1) := by decide +kernel
theorem dX10_lays_84 : decode cX10_lays 84 = .ok (.getfield 44, 3) := by decide +kernel
theorem dX10_lays_87 : decode cX10_lays 87 = .ok (.bipush 10, 2) := by decide +kernel
theorem dX10_lays_89 : decode cX10_lays 89 = .ok (.iload_n 1, 1) := by decide +kernel
theorem dX10_lays_90 : decode cX10_lays 90 = .ok (.iload_n 2, 1) := by decide +kernel
theorem dX10_lays_91 : decode cX10_lays 91 = .ok (.invokestatic 310, 3) := by decide +kernel
theorem dX10_lays_94 : decode cX10_lays 94 = .ok (.aload_n 0, 1) := by decide +kernel
theorem dX10_lays_95 : decode cX10_lays 95 = .ok (.getfield 47, 3) := by decide +kernel
theorem dX10_lays_98 : decode cX10_lays 98 = .ok (.bipush 6, 2) := by decide +kernel
theorem dX10_lays_100 : decode cX10_lays 100 = .ok (.iload_n 1, 1) := by decide +kernel
theorem dX10_lays_101 : decode cX10_lays 101 = .ok (.iload_n 2, 1) := by decide +kernel
theorem dX10_lays_102 : decode cX10_lays 102 = .ok (.invokestatic 310, 3) := by decide +kernel
theorem dX10_lays_105 : decode cX10_lays 105 = .ok (.aload_n 0, 1) := by decide +kernel
theorem dX10_lays_106 : decode cX10_lays 106 = .ok (.getfield 50, 3) := by decide +kernel
theorem dX10_lays_109 : decode cX10_lays 109 = .ok (.bipush 6, 2) := by decide +kernel
theorem dX10_lays_111 : decode cX10_lays 111 = .ok (.iload_n 1, 1) := by decide +kernel
theorem dX10_lays_112 : decode cX10_lays 112 = .ok (.iload_n 2, 1) := by decide +kernel
theorem dX10_lays_113 : decode cX10_lays 113 = .ok (.invokestatic 310, 3) := by decide +kernel
theorem dX10_lays_116 : decode cX10_lays 116 = .ok (.aload_n 0, 1) := by decide +kernel
theorem dX10_lays_117 : decode cX10_lays 117 = .ok (.getfield 53, 3) := by decide +kernel
theorem dX10_lays_120 : decode cX10_lays 120 = .ok (.bipush 6, 2) := by decide +kernel
theorem dX10_lays_122 : decode cX10_lays 122 = .ok (.iload_n 1, 1) := by decide +kernel
theorem dX10_lays_123 : decode cX10_lays 123 = .ok (.iload_n 2, 1) := by decide +kernel
theorem dX10_lays_124 : decode cX10_lays 124 = .ok (.invokestatic 310, 3) := by decide +kernel
theorem dX10_lays_127 : decode cX10_lays 127 = .ok (.aload_n 0, 1) := by decide +kernel
theorem dX10_lays_128 : decode cX10_lays 128 = .ok (.getfield 56, 3) := by decide +kernel
theorem dX10_lays_131 : decode cX10_lays 131 = .ok (.iconst 2, 1) := by decide +kernel
theorem dX10_lays_132 : decode cX10_lays 132 = .ok (.iload_n 1, 1) := by decide +kernel
theorem dX10_lays_133 : decode cX10_lays 133 = .ok (.iload_n 2, 1) := by decide +kernel
theorem dX10_lays_134 : decode cX10_lays 134 = .ok (.invokestatic 310, 3) := by decide +kernel
theorem dX10_lays_137 : decode cX10_lays 137 = .ok (.aload_n 0, 1) := by decide +kernel
theorem dX10_lays_138 : decode cX10_lays 138 = .ok (.getfield 59, 3) := by decide +kernel
theorem dX10_lays_141 : decode cX10_lays 141 = .ok (.bipush 16, 2) := by decide +kernel
theorem dX10_lays_143 : decode cX10_lays 143 = .ok (.iload_n 1, 1) := by decide +kernel
theorem dX10_lays_144 : decode cX10_lays 144 = .ok (.iload_n 2, 1) := by decide +kernel
theorem dX10_lays_145 : decode cX10_lays 145 = .ok (.invokestatic 310, 3) := by decide +kernel
theorem dX10_lays_148 : decode cX10_lays 148 = .ok (.aload_n 0, 1) := by decide +kernel
theorem dX10_lays_149 : decode cX10_lays 149 = .ok (.getfield 68, 3) := by decide +kernel
theorem dX10_lays_152 : decode cX10_lays 152 = .ok (.sipush 1000, 3) := by decide +kernel
theorem dX10_lays_155 : decode cX10_lays 155 = .ok (.iload_n 1, 1) := by decide +kernel
theorem dX10_lays_156 : decode cX10_lays 156 = .ok (.iload_n 2, 1) := by decide +kernel
theorem dX10_lays_157 : decode cX10_lays 157 = .ok (.invokestatic 310, 3) := by decide +kernel
theorem dX10_lays_160 : decode cX10_lays 160 = .ok (.iconst 0, 1) := by decide +kernel
theorem dX10_lays_161 : decode cX10_lays 161 = .ok (.istore_n 3, 1) := by decide +kernel
theorem dX10_lays_162 : decode cX10_lays 162 = .ok (.iload_n 3, 1) := by decide +kernel
theorem dX10_lays_163 : decode cX10_lays 163 = .ok (.iconst 2, 1) := by decide +kernel
theorem dX10_lays_164 : decode cX10_lays 164 = .ok (.if_icmp .ge 65, 3) := by decide +kernel
theorem dX10_lays_167 : decode cX10_lays 167 = .ok (.aload_n 0, 1) := by decide +kernel
theorem dX10_lays_168 : decode cX10_lays 168 = .ok (.getfield 62, 3) := by decide +kernel
theorem dX10_lays_171 : decode cX10_lays 171 = .ok (.iconst 2, 1) := by decide +kernel
theorem dX10_lays_172 : decode cX10_lays 172 = .ok (.iload_n 2, 1) := by decide +kernel
theorem dX10_lays_173 : decode cX10_lays 173 = .ok (.imul, 1) := by decide +kernel
theorem dX10_lays_174 : decode cX10_lays 174 = .ok (.iload_n 3, 1) := by decide +kernel
theorem dX10_lays_175 : decode cX10_lays 175 = .ok (.iadd, 1) := by decide +kernel
theorem dX10_lays_176 : decode cX10_lays 176 = .ok (.aload_n 0, 1) := by decide +kernel
theorem dX10_lays_177 : decode cX10_lays 177 = .ok (.getfield 62, 3) := by decide +kernel
theorem dX10_lays_180 : decode cX10_lays 180 = .ok (.iconst 2, 1) := by decide +kernel
theorem dX10_lays_181 : decode cX10_lays 181 = .ok (.iload_n 1, 1) := by decide +kernel
theorem dX10_lays_182 : decode cX10_lays 182 = .ok (.imul, 1) := by decide +kernel
theorem dX10_lays_183 : decode cX10_lays 183 = .ok (.iload_n 3, 1) := by decide +kernel
theorem dX10_lays_184 : decode cX10_lays 184 = .ok (.iadd, 1) := by decide +kernel
theorem dX10_lays_185 : decode cX10_lays 185 = .ok (.iaload, 1) := by decide +kernel
theorem dX10_lays_186 : decode cX10_lays 186 = .ok (.sipush 1000, 3) := by decide +kernel
theorem dX10_lays_189 : decode cX10_lays 189 = .ok (.iload_n 2, 1) := by decide +kernel
theorem dX10_lays_190 : decode cX10_lays 190 = .ok (.iload_n 1, 1) := by decide +kernel
theorem dX10_lays_191 : decode cX10_lays 191 = .ok (.isub, 1) := by decide +kernel
theorem dX10_lays_192 : decode cX10_lays 192 = .ok (.imul, 1) := by decide +kernel
theorem dX10_lays_193 : decode cX10_lays 193 = .ok (.iadd, 1) := by decide +kernel
theorem dX10_lays_194 : decode cX10_lays 194 = .ok (.iastore, 1) := by decide +kernel
theorem dX10_lays_195 : decode cX10_lays 195 = .ok (.aload_n 0, 1) := by decide +kernel
theorem dX10_lays_196 : decode cX10_lays 196 = .ok (.getfield 65, 3) := by decide +kernel
theorem dX10_lays_199 : decode cX10_lays 199 = .ok (.iconst 2, 1) := by decide +kernel
theorem dX10_lays_200 : decode cX10_lays 200 = .ok (.iload_n 2, 1) := by decide +kernel
theorem dX10_lays_201 : decode cX10_lays 201 = .ok (.imul, 1) := by decide +kernel
theorem dX10_lays_202 : decode cX10_lays 202 = .ok (.iload_n 3, 1) := by decide +kernel
theorem dX10_lays_203 : decode cX10_lays 203 = .ok (.iadd, 1) := by decide +kernel
theorem dX10_lays_204 : decode cX10_lays 204 = .ok (.aload_n 0, 1) := by decide +kernel
theorem dX10_lays_205 : decode cX10_lays 205 = .ok (.getfield 65, 3) := by decide +kernel
theorem dX10_lays_208 : decode cX10_lays 208 = .ok (.iconst 2, 1) := by decide +kernel
theorem dX10_lays_209 : decode cX10_lays 209 = .ok (.iload_n 1, 1) := by decide +kernel
theorem dX10_lays_210 : decode cX10_lays 210 = .ok (.imul, 1) := by decide +kernel
theorem dX10_lays_211 : decode cX10_lays 211 = .ok (.iload_n 3, 1) := by decide +kernel
theorem dX10_lays_212 : decode cX10_lays 212 = .ok (.iadd, 1) := by decide +kernel
theorem dX10_lays_213 : decode cX10_lays 213 = .ok (.iaload, 1) := by decide +kernel
theorem dX10_lays_214 : decode cX10_lays 214 = .ok (.sipush 1000, 3) := by decide +kernel
theorem dX10_lays_217 : decode cX10_lays 217 = .ok (.iload_n 2, 1) := by decide +kernel
theorem dX10_lays_218 : decode cX10_lays 218 = .ok (.iload_n 1, 1) := by decide +kernel
theorem dX10_lays_219 : decode cX10_lays 219 = .ok (.isub, 1) := by decide +kernel
theorem dX10_lays_220 : decode cX10_lays 220 = .ok (.imul, 1) := by decide +kernel
theorem dX10_lays_221 : decode cX10_lays 221 = .ok (.iadd, 1) := by decide +kernel
theorem dX10_lays_222 : decode cX10_lays 222 = .ok (.iastore, 1) := by decide +kernel
theorem dX10_lays_223 : decode cX10_lays 223 = .ok (.iinc 3 1, 3) := by decide +kernel
theorem dX10_lays_226 : decode cX10_lays 226 = .ok (.goto (-64), 3) := by decide +kernel
theorem dX10_lays_229 : decode cX10_lays 229 = .ok (.return_, 1) := by decide +kernel
theorem dX10_copies_0 : decode cX10_copies 0 = .ok (.iconst 0, 1) := by decide +kernel
theorem dX10_copies_1 : decode cX10_copies 1 = .ok (.istore 4, 2) := by decide +kernel
theorem dX10_copies_3 : decode cX10_copies 3 = .ok (.iload 4, 2) := by decide +kernel
theorem dX10_copies_5 : decode cX10_copies 5 = .ok (.bipush 96, 2) := by decide +kernel
theorem dX10_copies_7 : decode cX10_copies 7 = .ok (.if_icmp .ge 21, 3) := by decide +kernel
theorem dX10_copies_10 : decode cX10_copies 10 = .ok (.aload_n 2, 1) := by decide +kernel
theorem dX10_copies_11 : decode cX10_copies 11 = .ok (.iload_n 3, 1) := by decide +kernel
theorem dX10_copies_12 : decode cX10_copies 12 = .ok (.iload 4, 2) := by decide +kernel
theorem dX10_copies_14 : decode cX10_copies 14 = .ok (.iadd, 1) := by decide +kernel
theorem dX10_copies_15 : decode cX10_copies 15 = .ok (.aload_n 0, 1) := by decide +kernel
theorem dX10_copies_16 : decode cX10_copies 16 = .ok (.iload_n 1, 1) := by decide +kernel
theorem dX10_copies_17 : decode cX10_copies 17 = .ok (.iload 4, 2) := by decide +kernel
theorem dX10_copies_19 : decode cX10_copies 19 = .ok (.iadd, 1) := by decide +kernel
theorem dX10_copies_20 : decode cX10_copies 20 = .ok (.iaload, 1) := by decide +kernel
theorem dX10_copies_21 : decode cX10_copies 21 = .ok (.iastore, 1) := by decide +kernel
theorem dX10_copies_22 : decode cX10_copies 22 = .ok (.iinc 4 1, 3) := by decide +kernel
theorem dX10_copies_25 : decode cX10_copies 25 = .ok (.goto (-22), 3) := by decide +kernel
theorem dX10_copies_28 : decode cX10_copies 28 = .ok (.return_, 1) := by decide +kernel
theorem dX10_prison_0 : decode cX10_prison 0 = .ok (.aload_n 0, 1) := by decide +kernel
theorem dX10_prison_1 : decode cX10_prison 1 = .ok (.iconst 0, 1) := by decide +kernel
theorem dX10_prison_2 : decode cX10_prison 2 = .ok (.putfield 135, 3) := by decide +kernel
theorem dX10_prison_5 : decode cX10_prison 5 = .ok (.aload_n 0, 1) := by decide +kernel
theorem dX10_prison_6 : decode cX10_prison 6 = .ok (.invokevirtual 314, 3) := by decide +kernel
theorem dX10_prison_9 : decode cX10_prison 9 = .ok (.ifCond .ne 8, 3) := by decide +kernel
theorem dX10_prison_12 : decode cX10_prison 12 = .ok (.aload_n 0, 1) := by decide +kernel
theorem dX10_prison_13 : decode cX10_prison 13 = .ok (.getfield 171, 3) := by decide +kernel
theorem dX10_prison_16 : decode cX10_prison 16 = .ok (.ireturn, 1) := by decide +kernel
theorem dX10_prison_17 : decode cX10_prison 17 = .ok (.aload_n 0, 1) := by decide +kernel
theorem dX10_prison_18 : decode cX10_prison 18 = .ok (.iconst 1, 1) := by decide +kernel
theorem dX10_prison_19 : decode cX10_prison 19 = .ok (.iconst 0, 1) := by decide +kernel
theorem dX10_prison_20 : decode cX10_prison 20 = .ok (.invokevirtual 317, 3) := by decide +kernel
theorem dX10_prison_23 : decode cX10_prison 23 = .ok (.iconst 0, 1) := by decide +kernel
theorem dX10_prison_24 : decode cX10_prison 24 = .ok (.istore_n 1, 1) := by decide +kernel
theorem dX10_prison_25 : decode cX10_prison 25 = .ok (.iload_n 1, 1) := by decide +kernel
theorem dX10_prison_26 : decode cX10_prison 26 = .ok (.bipush 96, 2) := by decide +kernel
theorem dX10_prison_28 : decode cX10_prison 28 = .ok (.if_icmp .ge 16, 3) := by decide +kernel
theorem dX10_prison_31 : decode cX10_prison 31 = .ok (.aload_n 0, 1) := by decide +kernel
theorem dX10_prison_32 : decode cX10_prison 32 = .ok (.getfield 108, 3) := by decide +kernel
theorem dX10_prison_35 : decode cX10_prison 35 = .ok (.iload_n 1, 1) := by decide +kernel
theorem dX10_prison_36 : decode cX10_prison 36 = .ok (.iconst 0, 1) := by decide +kernel
theorem dX10_prison_37 : decode cX10_prison 37 = .ok (.iastore, 1) := by decide +kernel
theorem dX10_prison_38 : decode cX10_prison 38 = .ok (.iinc 1 1, 3) := by decide +kernel
theorem dX10_prison_41 : decode cX10_prison 41 = .ok (.goto (-16), 3) := by decide +kernel
theorem dX10_prison_44 : decode cX10_prison 44 = .ok (.iconst 0, 1) := by decide +kernel
theorem dX10_prison_45 : decode cX10_prison 45 = .ok (.istore_n 1, 1) := by decide +kernel
theorem dX10_prison_46 : decode cX10_prison 46 = .ok (.iload_n 1, 1) := by decide +kernel
theorem dX10_prison_47 : decode cX10_prison 47 = .ok (.aload_n 0, 1) := by decide +kernel
theorem dX10_prison_48 : decode cX10_prison 48 = .ok (.getfield 16, 3) := by decide +kernel
theorem dX10_prison_51 : decode cX10_prison 51 = .ok (.iconst 0, 1) := by decide +kernel
theorem dX10_prison_52 : decode cX10_prison 52 = .ok (.iaload, 1) := by decide +kernel
theorem dX10_prison_53 : decode cX10_prison 53 = .ok (.if_icmp .ge 36, 3) := by decide +kernel
theorem dX10_prison_56 : decode cX10_prison 56 = .ok (.aload_n 0, 1) := by decide +kernel
theorem dX10_prison_57 : decode cX10_prison 57 = .ok (.getfield 108, 3) := by decide +kernel
theorem dX10_prison_60 : decode cX10_prison 60 = .ok (.iload_n 1, 1) := by decide +kernel
theorem dX10_prison_61 : decode cX10_prison 61 = .ok (.aload_n 0, 1) := by decide +kernel
theorem dX10_prison_62 : decode cX10_prison 62 = .ok (.getfield 44, 3) := by decide +kernel
theorem dX10_prison_65 : decode cX10_prison 65 = .ok (.iload_n 1, 1) := by decide +kernel
theorem dX10_prison_66 : decode cX10_prison 66 = .ok (.iaload, 1) := by decide +kernel
theorem dX10_prison_67 : decode cX10_prison 67 = .ok (.iastore, 1) := by decide +kernel
theorem dX10_prison_68 : decode cX10_prison 68 = .ok (.aload_n 0, 1) := by decide +kernel
theorem dX10_prison_69 : decode cX10_prison 69 = .ok (.getfield 108, 3) := by decide +kernel
theorem dX10_prison_72 : decode cX10_prison 72 = .ok (.bipush 30, 2) := by decide +kernel
theorem dX10_prison_74 : decode cX10_prison 74 = .ok (.iload_n 1, 1) := by decide +kernel
theorem dX10_prison_75 : decode cX10_prison 75 = .ok (.iadd, 1) := by decide +kernel
theorem dX10_prison_76 : decode cX10_prison 76 = .ok (.aload_n 0, 1) := by decide +kernel
theorem dX10_prison_77 : decode cX10_prison 77 = .ok (.getfield 44, 3) := by decide +kernel
theorem dX10_prison_80 : decode cX10_prison 80 = .ok (.iload_n 1, 1) := by decide +kernel
theorem dX10_prison_81 : decode cX10_prison 81 = .ok (.iaload, 1) := by decide +kernel
theorem dX10_prison_82 : decode cX10_prison 82 = .ok (.iastore, 1) := by decide +kernel
theorem dX10_prison_83 : decode cX10_prison 83 = .ok (.iinc 1 1, 3) := by decide +kernel
theorem dX10_prison_86 : decode cX10_prison 86 = .ok (.goto (-40), 3) := by decide +kernel
theorem dX10_prison_89 : decode cX10_prison 89 = .ok (.iconst 0, 1) := by decide +kernel
theorem dX10_prison_90 : decode cX10_prison 90 = .ok (.istore_n 1, 1) := by decide +kernel
theorem dX10_prison_91 : decode cX10_prison 91 = .ok (.iload_n 1, 1) := by decide +kernel
theorem dX10_prison_92 : decode cX10_prison 92 = .ok (.aload_n 0, 1) := by decide +kernel
theorem dX10_prison_93 : decode cX10_prison 93 = .ok (.getfield 13, 3) := by decide +kernel
theorem dX10_prison_96 : decode cX10_prison 96 = .ok (.iconst 0, 1) := by decide +kernel
theorem dX10_prison_97 : decode cX10_prison 97 = .ok (.iaload, 1) := by decide +kernel
theorem dX10_prison_98 : decode cX10_prison 98 = .ok (.if_icmp .ge 24, 3) := by decide +kernel
theorem dX10_prison_101 : decode cX10_prison 101 = .ok (.aload_n 0, 1) := by decide +kernel
theorem dX10_prison_102 : decode cX10_prison 102 = .ok (.getfield 108, 3) := by decide +kernel
theorem dX10_prison_105 : decode cX10_prison 105 = .ok (.bipush 60, 2) := by decide +kernel
theorem dX10_prison_107 : decode cX10_prison 107 = .ok (.iload_n 1, 1) := by decide +kernel
theorem dX10_prison_108 : decode cX10_prison 108 = .ok (.iadd, 1) := by decide +kernel
theorem dX10_prison_109 : decode cX10_prison 109 = .ok (.aload_n 0, 1) := by decide +kernel
theorem dX10_prison_110 : decode cX10_prison 110 = .ok (.getfield 35, 3) := by decide +kernel
theorem dX10_prison_113 : decode cX10_prison 113 = .ok (.iload_n 1, 1) := by decide +kernel
theorem dX10_prison_114 : decode cX10_prison 114 = .ok (.iaload, 1) := by decide +kernel
theorem dX10_prison_115 : decode cX10_prison 115 = .ok (.iastore, 1) := by decide +kernel
theorem dX10_prison_116 : decode cX10_prison 116 = .ok (.iinc 1 1, 3) := by decide +kernel
theorem dX10_prison_119 : decode cX10_prison 119 = .ok (.goto (-28), 3) := by decide +kernel
theorem dX10_prison_122 : decode cX10_prison 122 = .ok (.iconst 0, 1) := by decide +kernel
theorem dX10_prison_123 : decode cX10_prison 123 = .ok (.istore_n 1, 1) := by decide +kernel
theorem dX10_prison_124 : decode cX10_prison 124 = .ok (.iload_n 1, 1) := by decide +kernel
theorem dX10_prison_125 : decode cX10_prison 125 = .ok (.aload_n 0, 1) := by decide +kernel
theorem dX10_prison_126 : decode cX10_prison 126 = .ok (.getfield 19, 3) := by decide +kernel
theorem dX10_prison_129 : decode cX10_prison 129 = .ok (.iconst 0, 1) := by decide +kernel
theorem dX10_prison_130 : decode cX10_prison 130 = .ok (.iaload, 1) := by decide +kernel
theorem dX10_prison_131 : decode cX10_prison 131 = .ok (.if_icmp .ge 39, 3) := by decide +kernel
theorem dX10_prison_134 : decode cX10_prison 134 = .ok (.aload_n 0, 1) := by decide +kernel
theorem dX10_prison_135 : decode cX10_prison 135 = .ok (.getfield 108, 3) := by decide +kernel
theorem dX10_prison_138 : decode cX10_prison 138 = .ok (.bipush 68, 2) := by decide +kernel
theorem dX10_prison_140 : decode cX10_prison 140 = .ok (.iload_n 1, 1) := by decide +kernel
theorem dX10_prison_141 : decode cX10_prison 141 = .ok (.iadd, 1) := by decide +kernel
theorem dX10_prison_142 : decode cX10_prison 142 = .ok (.aload_n 0, 1) := by decide +kernel
theorem dX10_prison_143 : decode cX10_prison 143 = .ok (.getfield 47, 3) := by decide +kernel
theorem dX10_prison_146 : decode cX10_prison 146 = .ok (.iload_n 1, 1) := by decide +kernel
theorem dX10_prison_147 : decode cX10_prison 147 = .ok (.iaload, 1) := by decide +kernel
theorem dX10_prison_148 : decode cX10_prison 148 = .ok (.iastore, 1) := by decide +kernel
theorem dX10_prison_149 : decode cX10_prison 149 = .ok (.aload_n 0, 1) := by decide +kernel
theorem dX10_prison_150 : decode cX10_prison 150 = .ok (.getfield 108, 3) := by decide +kernel
theorem dX10_prison_153 : decode cX10_prison 153 = .ok (.bipush 74, 2) := by decide +kernel
theorem dX10_prison_155 : decode cX10_prison 155 = .ok (.iload_n 1, 1) := by decide +kernel
theorem dX10_prison_156 : decode cX10_prison 156 = .ok (.iadd, 1) := by decide +kernel
theorem dX10_prison_157 : decode cX10_prison 157 = .ok (.aload_n 0, 1) := by decide +kernel
theorem dX10_prison_158 : decode cX10_prison 158 = .ok (.getfield 50, 3) := by decide +kernel
theorem dX10_prison_161 : decode cX10_prison 161 = .ok (.iload_n 1, 1) := by decide +kernel
theorem dX10_prison_162 : decode cX10_prison 162 = .ok (.iaload, 1) := by decide +kernel
theorem dX10_prison_163 : decode cX10_prison 163 = .ok (.iastore, 1) := by decide +kernel
theorem dX10_prison_164 : decode cX10_prison 164 = .ok (.iinc 1 1, 3) := by decide +kernel
theorem dX10_prison_167 : decode cX10_prison 167 = .ok (.goto (-43), 3) := by decide +kernel
theorem dX10_prison_170 : decode cX10_prison 170 = .ok (.aload_n 0, 1) := by decide +kernel
theorem dX10_prison_171 : decode cX10_prison 171 = .ok (.invokevirtual 321, 3) := by decide +kernel
theorem dX10_prison_174 : decode cX10_prison 174 = .ok (.iconst 0, 1) := by decide +kernel
theorem dX10_prison_175 : decode cX10_prison 175 = .ok (.ireturn, 1) := by decide +kernel
theorem dX10_isCell_0 : decode cX10_isCell 0 = .ok (.iload_n 1, 1) := by decide +kernel
theorem dX10_isCell_1 : decode cX10_isCell 1 = .ok (.ifCond .lt 17, 3) := by decide +kernel
theorem dX10_isCell_4 : decode cX10_isCell 4 = .ok (.iload_n 1, 1) := by decide +kernel
theorem dX10_isCell_5 : decode cX10_isCell 5 = .ok (.aload_n 0, 1) := by decide +kernel
theorem dX10_isCell_6 : decode cX10_isCell 6 = .ok (.getfield 13, 3) := by decide +kernel
theorem dX10_isCell_9 : decode cX10_isCell 9 = .ok (.iconst 0, 1) := by decide +kernel
theorem dX10_isCell_10 : decode cX10_isCell 10 = .ok (.iaload, 1) := by decide +kernel
theorem dX10_isCell_11 : decode cX10_isCell 11 = .ok (.if_icmp .ge 7, 3) := by decide +kernel
theorem dX10_isCell_14 : decode cX10_isCell 14 = .ok (.iconst 1, 1) := by decide +kernel
theorem dX10_isCell_15 : decode cX10_isCell 15 = .ok (.goto 4, 3) := by decide +kernel
theorem dX10_isCell_18 : decode cX10_isCell 18 = .ok (.iconst 0, 1) := by decide +kernel
theorem dX10_isCell_19 : decode cX10_isCell 19 = .ok (.ireturn, 1) := by decide +kernel
theorem dX10_isDoor_0 : decode cX10_isDoor 0 = .ok (.iload_n 1, 1) := by decide +kernel
theorem dX10_isDoor_1 : decode cX10_isDoor 1 = .ok (.ifCond .lt 17, 3) := by decide +kernel
end
section
theorem dX10_isDoor_4 : decode cX10_isDoor 4 = .ok (.iload_n 1, 1) := by decide +kernel
theorem dX10_isDoor_5 : decode cX10_isDoor 5 = .ok (.aload_n 0, 1) := by decide +kernel
theorem dX10_isDoor_6 : decode cX10_isDoor 6 = .ok (.getfield 16, 3) := by decide +kernel
theorem dX10_isDoor_9 : decode cX10_isDoor 9 = .ok (.iconst 0, 1) := by decide +kernel
theorem dX10_isDoor_10 : decode cX10_isDoor 10 = .ok (.iaload, 1) := by decide +kernel
theorem dX10_isDoor_11 : decode cX10_isDoor 11 = .ok (.if_icmp .ge 7, 3) := by decide +kernel
theorem dX10_isDoor_14 : decode cX10_isDoor 14 = .ok (.iconst 1, 1) := by decide +kernel
theorem dX10_isDoor_15 : decode cX10_isDoor 15 = .ok (.goto 4, 3) := by decide +kernel
theorem dX10_isDoor_18 : decode cX10_isDoor 18 = .ok (.iconst 0, 1) := by decide +kernel
theorem dX10_isDoor_19 : decode cX10_isDoor 19 = .ok (.ireturn, 1) := by decide +kernel
theorem dX10_isMan_0 : decode cX10_isMan 0 = .ok (.iload_n 1, 1) := by decide +kernel
theorem dX10_isMan_1 : decode cX10_isMan 1 = .ok (.ifCond .lt 17, 3) := by decide +kernel
theorem dX10_isMan_4 : decode cX10_isMan 4 = .ok (.iload_n 1, 1) := by decide +kernel
theorem dX10_isMan_5 : decode cX10_isMan 5 = .ok (.aload_n 0, 1) := by decide +kernel
theorem dX10_isMan_6 : decode cX10_isMan 6 = .ok (.getfield 19, 3) := by decide +kernel
theorem dX10_isMan_9 : decode cX10_isMan 9 = .ok (.iconst 0, 1) := by decide +kernel
theorem dX10_isMan_10 : decode cX10_isMan 10 = .ok (.iaload, 1) := by decide +kernel
theorem dX10_isMan_11 : decode cX10_isMan 11 = .ok (.if_icmp .ge 7, 3) := by decide +kernel
theorem dX10_isMan_14 : decode cX10_isMan 14 = .ok (.iconst 1, 1) := by decide +kernel
theorem dX10_isMan_15 : decode cX10_isMan 15 = .ok (.goto 4, 3) := by decide +kernel
theorem dX10_isMan_18 : decode cX10_isMan 18 = .ok (.iconst 0, 1) := by decide +kernel
theorem dX10_isMan_19 : decode cX10_isMan 19 = .ok (.ireturn, 1) := by decide +kernel
theorem dX10_isHeld_0 : decode cX10_isHeld 0 = .ok (.aload_n 0, 1) := by decide +kernel
theorem dX10_isHeld_1 : decode cX10_isHeld 1 = .ok (.iload_n 1, 1) := by decide +kernel
theorem dX10_isHeld_2 : decode cX10_isHeld 2 = .ok (.invokevirtual 324, 3) := by decide +kernel
theorem dX10_isHeld_5 : decode cX10_isHeld 5 = .ok (.ifCond .eq 19, 3) := by decide +kernel
theorem dX10_isHeld_8 : decode cX10_isHeld 8 = .ok (.aload_n 0, 1) := by decide +kernel
theorem dX10_isHeld_9 : decode cX10_isHeld 9 = .ok (.getfield 108, 3) := by decide +kernel
theorem dX10_isHeld_12 : decode cX10_isHeld 12 = .ok (.bipush 68, 2) := by decide +kernel
theorem dX10_isHeld_14 : decode cX10_isHeld 14 = .ok (.iload_n 1, 1) := by decide +kernel
theorem dX10_isHeld_15 : decode cX10_isHeld 15 = .ok (.iadd, 1) := by decide +kernel
theorem dX10_isHeld_16 : decode cX10_isHeld 16 = .ok (.iaload, 1) := by decide +kernel
theorem dX10_isHeld_17 : decode cX10_isHeld 17 = .ok (.ifCond .lt 7, 3) := by decide +kernel
theorem dX10_isHeld_20 : decode cX10_isHeld 20 = .ok (.iconst 1, 1) := by decide +kernel
theorem dX10_isHeld_21 : decode cX10_isHeld 21 = .ok (.goto 4, 3) := by decide +kernel
theorem dX10_isHeld_24 : decode cX10_isHeld 24 = .ok (.iconst 0, 1) := by decide +kernel
theorem dX10_isHeld_25 : decode cX10_isHeld 25 = .ok (.ireturn, 1) := by decide +kernel
theorem dX10_ways_0 : decode cX10_ways 0 = .ok (.iconst 0, 1) := by decide +kernel
theorem dX10_ways_1 : decode cX10_ways 1 = .ok (.istore_n 1, 1) := by decide +kernel
theorem dX10_ways_2 : decode cX10_ways 2 = .ok (.iload_n 1, 1) := by decide +kernel
theorem dX10_ways_3 : decode cX10_ways 3 = .ok (.bipush 8, 2) := by decide +kernel
theorem dX10_ways_5 : decode cX10_ways 5 = .ok (.if_icmp .ge 16, 3) := by decide +kernel
theorem dX10_ways_8 : decode cX10_ways 8 = .ok (.aload_n 0, 1) := by decide +kernel
theorem dX10_ways_9 : decode cX10_ways 9 = .ok (.getfield 117, 3) := by decide +kernel
theorem dX10_ways_12 : decode cX10_ways 12 = .ok (.iload_n 1, 1) := by decide +kernel
theorem dX10_ways_13 : decode cX10_ways 13 = .ok (.iconst 0, 1) := by decide +kernel
theorem dX10_ways_14 : decode cX10_ways 14 = .ok (.iastore, 1) := by decide +kernel
theorem dX10_ways_15 : decode cX10_ways 15 = .ok (.iinc 1 1, 3) := by decide +kernel
theorem dX10_ways_18 : decode cX10_ways 18 = .ok (.goto (-16), 3) := by decide +kernel
theorem dX10_ways_21 : decode cX10_ways 21 = .ok (.iconst 1, 1) := by decide +kernel
theorem dX10_ways_22 : decode cX10_ways 22 = .ok (.istore_n 1, 1) := by decide +kernel
theorem dX10_ways_23 : decode cX10_ways 23 = .ok (.iload_n 1, 1) := by decide +kernel
theorem dX10_ways_24 : decode cX10_ways 24 = .ok (.bipush 9, 2) := by decide +kernel
theorem dX10_ways_26 : decode cX10_ways 26 = .ok (.if_icmp .ge 140, 3) := by decide +kernel
theorem dX10_ways_29 : decode cX10_ways 29 = .ok (.iconst 0, 1) := by decide +kernel
theorem dX10_ways_30 : decode cX10_ways 30 = .ok (.istore_n 2, 1) := by decide +kernel
theorem dX10_ways_31 : decode cX10_ways 31 = .ok (.iload_n 2, 1) := by decide +kernel
theorem dX10_ways_32 : decode cX10_ways 32 = .ok (.aload_n 0, 1) := by decide +kernel
theorem dX10_ways_33 : decode cX10_ways 33 = .ok (.getfield 16, 3) := by decide +kernel
theorem dX10_ways_36 : decode cX10_ways 36 = .ok (.iconst 0, 1) := by decide +kernel
theorem dX10_ways_37 : decode cX10_ways 37 = .ok (.iaload, 1) := by decide +kernel
theorem dX10_ways_38 : decode cX10_ways 38 = .ok (.if_icmp .ge 122, 3) := by decide +kernel
theorem dX10_ways_41 : decode cX10_ways 41 = .ok (.aload_n 0, 1) := by decide +kernel
theorem dX10_ways_42 : decode cX10_ways 42 = .ok (.getfield 38, 3) := by decide +kernel
theorem dX10_ways_45 : decode cX10_ways 45 = .ok (.iload_n 2, 1) := by decide +kernel
theorem dX10_ways_46 : decode cX10_ways 46 = .ok (.iaload, 1) := by decide +kernel
theorem dX10_ways_47 : decode cX10_ways 47 = .ok (.istore_n 3, 1) := by decide +kernel
theorem dX10_ways_48 : decode cX10_ways 48 = .ok (.aload_n 0, 1) := by decide +kernel
theorem dX10_ways_49 : decode cX10_ways 49 = .ok (.getfield 41, 3) := by decide +kernel
theorem dX10_ways_52 : decode cX10_ways 52 = .ok (.iload_n 2, 1) := by decide +kernel
theorem dX10_ways_53 : decode cX10_ways 53 = .ok (.iaload, 1) := by decide +kernel
theorem dX10_ways_54 : decode cX10_ways 54 = .ok (.istore 4, 2) := by decide +kernel
theorem dX10_ways_56 : decode cX10_ways 56 = .ok (.iload 4, 2) := by decide +kernel
theorem dX10_ways_58 : decode cX10_ways 58 = .ok (.ifCond .ge 27, 3) := by decide +kernel
theorem dX10_ways_61 : decode cX10_ways 61 = .ok (.aload_n 0, 1) := by decide +kernel
theorem dX10_ways_62 : decode cX10_ways 62 = .ok (.getfield 117, 3) := by decide +kernel
theorem dX10_ways_65 : decode cX10_ways 65 = .ok (.iload_n 3, 1) := by decide +kernel
theorem dX10_ways_66 : decode cX10_ways 66 = .ok (.iload_n 1, 1) := by decide +kernel
theorem dX10_ways_67 : decode cX10_ways 67 = .ok (.iconst 1, 1) := by decide +kernel
theorem dX10_ways_68 : decode cX10_ways 68 = .ok (.if_icmp .ne 7, 3) := by decide +kernel
theorem dX10_ways_71 : decode cX10_ways 71 = .ok (.iconst 1, 1) := by decide +kernel
theorem dX10_ways_72 : decode cX10_ways 72 = .ok (.goto 9, 3) := by decide +kernel
theorem dX10_ways_75 : decode cX10_ways 75 = .ok (.aload_n 0, 1) := by decide +kernel
theorem dX10_ways_76 : decode cX10_ways 76 = .ok (.getfield 117, 3) := by decide +kernel
theorem dX10_ways_79 : decode cX10_ways 79 = .ok (.iload_n 3, 1) := by decide +kernel
theorem dX10_ways_80 : decode cX10_ways 80 = .ok (.iaload, 1) := by decide +kernel
theorem dX10_ways_81 : decode cX10_ways 81 = .ok (.iastore, 1) := by decide +kernel
theorem dX10_ways_82 : decode cX10_ways 82 = .ok (.goto 72, 3) := by decide +kernel
theorem dX10_ways_85 : decode cX10_ways 85 = .ok (.aload_n 0, 1) := by decide +kernel
theorem dX10_ways_86 : decode cX10_ways 86 = .ok (.getfield 117, 3) := by decide +kernel
theorem dX10_ways_89 : decode cX10_ways 89 = .ok (.iload_n 3, 1) := by decide +kernel
theorem dX10_ways_90 : decode cX10_ways 90 = .ok (.iaload, 1) := by decide +kernel
theorem dX10_ways_91 : decode cX10_ways 91 = .ok (.ifCond .ne 28, 3) := by decide +kernel
theorem dX10_ways_94 : decode cX10_ways 94 = .ok (.aload_n 0, 1) := by decide +kernel
theorem dX10_ways_95 : decode cX10_ways 95 = .ok (.getfield 117, 3) := by decide +kernel
theorem dX10_ways_98 : decode cX10_ways 98 = .ok (.iload 4, 2) := by decide +kernel
theorem dX10_ways_100 : decode cX10_ways 100 = .ok (.iaload, 1) := by decide +kernel
theorem dX10_ways_101 : decode cX10_ways 101 = .ok (.iload_n 1, 1) := by decide +kernel
theorem dX10_ways_102 : decode cX10_ways 102 = .ok (.iconst 1, 1) := by decide +kernel
theorem dX10_ways_103 : decode cX10_ways 103 = .ok (.isub, 1) := by decide +kernel
theorem dX10_ways_104 : decode cX10_ways 104 = .ok (.if_icmp .ne 15, 3) := by decide +kernel
theorem dX10_ways_107 : decode cX10_ways 107 = .ok (.iload_n 1, 1) := by decide +kernel
theorem dX10_ways_108 : decode cX10_ways 108 = .ok (.iconst 1, 1) := by decide +kernel
theorem dX10_ways_109 : decode cX10_ways 109 = .ok (.if_icmp .le 10, 3) := by decide +kernel
theorem dX10_ways_112 : decode cX10_ways 112 = .ok (.aload_n 0, 1) := by decide +kernel
theorem dX10_ways_113 : decode cX10_ways 113 = .ok (.getfield 117, 3) := by decide +kernel
theorem dX10_ways_116 : decode cX10_ways 116 = .ok (.iload_n 3, 1) := by decide +kernel
theorem dX10_ways_117 : decode cX10_ways 117 = .ok (.iload_n 1, 1) := by decide +kernel
theorem dX10_ways_118 : decode cX10_ways 118 = .ok (.iastore, 1) := by decide +kernel
theorem dX10_ways_119 : decode cX10_ways 119 = .ok (.aload_n 0, 1) := by decide +kernel
theorem dX10_ways_120 : decode cX10_ways 120 = .ok (.getfield 117, 3) := by decide +kernel
theorem dX10_ways_123 : decode cX10_ways 123 = .ok (.iload 4, 2) := by decide +kernel
theorem dX10_ways_125 : decode cX10_ways 125 = .ok (.iaload, 1) := by decide +kernel
theorem dX10_ways_126 : decode cX10_ways 126 = .ok (.ifCond .ne 28, 3) := by decide +kernel
theorem dX10_ways_129 : decode cX10_ways 129 = .ok (.aload_n 0, 1) := by decide +kernel
theorem dX10_ways_130 : decode cX10_ways 130 = .ok (.getfield 117, 3) := by decide +kernel
theorem dX10_ways_133 : decode cX10_ways 133 = .ok (.iload_n 3, 1) := by decide +kernel
theorem dX10_ways_134 : decode cX10_ways 134 = .ok (.iaload, 1) := by decide +kernel
theorem dX10_ways_135 : decode cX10_ways 135 = .ok (.iload_n 1, 1) := by decide +kernel
theorem dX10_ways_136 : decode cX10_ways 136 = .ok (.iconst 1, 1) := by decide +kernel
theorem dX10_ways_137 : decode cX10_ways 137 = .ok (.isub, 1) := by decide +kernel
theorem dX10_ways_138 : decode cX10_ways 138 = .ok (.if_icmp .ne 16, 3) := by decide +kernel
theorem dX10_ways_141 : decode cX10_ways 141 = .ok (.iload_n 1, 1) := by decide +kernel
theorem dX10_ways_142 : decode cX10_ways 142 = .ok (.iconst 1, 1) := by decide +kernel
theorem dX10_ways_143 : decode cX10_ways 143 = .ok (.if_icmp .le 11, 3) := by decide +kernel
theorem dX10_ways_146 : decode cX10_ways 146 = .ok (.aload_n 0, 1) := by decide +kernel
theorem dX10_ways_147 : decode cX10_ways 147 = .ok (.getfield 117, 3) := by decide +kernel
theorem dX10_ways_150 : decode cX10_ways 150 = .ok (.iload 4, 2) := by decide +kernel
theorem dX10_ways_152 : decode cX10_ways 152 = .ok (.iload_n 1, 1) := by decide +kernel
theorem dX10_ways_153 : decode cX10_ways 153 = .ok (.iastore, 1) := by decide +kernel
theorem dX10_ways_154 : decode cX10_ways 154 = .ok (.iinc 2 1, 3) := by decide +kernel
theorem dX10_ways_157 : decode cX10_ways 157 = .ok (.goto (-126), 3) := by decide +kernel
theorem dX10_ways_160 : decode cX10_ways 160 = .ok (.iinc 1 1, 3) := by decide +kernel
theorem dX10_ways_163 : decode cX10_ways 163 = .ok (.goto (-140), 3) := by decide +kernel
theorem dX10_ways_166 : decode cX10_ways 166 = .ok (.return_, 1) := by decide +kernel
theorem dX10_leads_0 : decode cX10_leads 0 = .ok (.aload_n 0, 1) := by decide +kernel
theorem dX10_leads_1 : decode cX10_leads 1 = .ok (.getfield 38, 3) := by decide +kernel
theorem dX10_leads_4 : decode cX10_leads 4 = .ok (.iload_n 1, 1) := by decide +kernel
theorem dX10_leads_5 : decode cX10_leads 5 = .ok (.iaload, 1) := by decide +kernel
theorem dX10_leads_6 : decode cX10_leads 6 = .ok (.iload_n 2, 1) := by decide +kernel
theorem dX10_leads_7 : decode cX10_leads 7 = .ok (.if_icmp .ne 12, 3) := by decide +kernel
theorem dX10_leads_10 : decode cX10_leads 10 = .ok (.aload_n 0, 1) := by decide +kernel
theorem dX10_leads_11 : decode cX10_leads 11 = .ok (.getfield 41, 3) := by decide +kernel
theorem dX10_leads_14 : decode cX10_leads 14 = .ok (.iload_n 1, 1) := by decide +kernel
theorem dX10_leads_15 : decode cX10_leads 15 = .ok (.iaload, 1) := by decide +kernel
theorem dX10_leads_16 : decode cX10_leads 16 = .ok (.goto 24, 3) := by decide +kernel
theorem dX10_leads_19 : decode cX10_leads 19 = .ok (.aload_n 0, 1) := by decide +kernel
theorem dX10_leads_20 : decode cX10_leads 20 = .ok (.getfield 41, 3) := by decide +kernel
theorem dX10_leads_23 : decode cX10_leads 23 = .ok (.iload_n 1, 1) := by decide +kernel
theorem dX10_leads_24 : decode cX10_leads 24 = .ok (.iaload, 1) := by decide +kernel
theorem dX10_leads_25 : decode cX10_leads 25 = .ok (.iload_n 2, 1) := by decide +kernel
theorem dX10_leads_26 : decode cX10_leads 26 = .ok (.if_icmp .ne 12, 3) := by decide +kernel
theorem dX10_leads_29 : decode cX10_leads 29 = .ok (.aload_n 0, 1) := by decide +kernel
theorem dX10_leads_30 : decode cX10_leads 30 = .ok (.getfield 38, 3) := by decide +kernel
theorem dX10_leads_33 : decode cX10_leads 33 = .ok (.iload_n 1, 1) := by decide +kernel
theorem dX10_leads_34 : decode cX10_leads 34 = .ok (.iaload, 1) := by decide +kernel
theorem dX10_leads_35 : decode cX10_leads 35 = .ok (.goto 5, 3) := by decide +kernel
theorem dX10_leads_38 : decode cX10_leads 38 = .ok (.bipush (-2), 2) := by decide +kernel
theorem dX10_leads_40 : decode cX10_leads 40 = .ok (.ireturn, 1) := by decide +kernel
theorem dX10_farOf_0 : decode cX10_farOf 0 = .ok (.iload_n 1, 1) := by decide +kernel
theorem dX10_farOf_1 : decode cX10_farOf 1 = .ok (.ifCond .ge 7, 3) := by decide +kernel
theorem dX10_farOf_4 : decode cX10_farOf 4 = .ok (.iconst 0, 1) := by decide +kernel
theorem dX10_farOf_5 : decode cX10_farOf 5 = .ok (.goto 9, 3) := by decide +kernel
theorem dX10_farOf_8 : decode cX10_farOf 8 = .ok (.aload_n 0, 1) := by decide +kernel
theorem dX10_farOf_9 : decode cX10_farOf 9 = .ok (.getfield 117, 3) := by decide +kernel
theorem dX10_farOf_12 : decode cX10_farOf 12 = .ok (.iload_n 1, 1) := by decide +kernel
theorem dX10_farOf_13 : decode cX10_farOf 13 = .ok (.iaload, 1) := by decide +kernel
theorem dX10_farOf_14 : decode cX10_farOf 14 = .ok (.ireturn, 1) := by decide +kernel
theorem dX10_hasGuard_0 : decode cX10_hasGuard 0 = .ok (.iconst 0, 1) := by decide +kernel
theorem dX10_hasGuard_1 : decode cX10_hasGuard 1 = .ok (.istore_n 3, 1) := by decide +kernel
theorem dX10_hasGuard_2 : decode cX10_hasGuard 2 = .ok (.iload_n 3, 1) := by decide +kernel
theorem dX10_hasGuard_3 : decode cX10_hasGuard 3 = .ok (.aload_n 0, 1) := by decide +kernel
theorem dX10_hasGuard_4 : decode cX10_hasGuard 4 = .ok (.getfield 22, 3) := by decide +kernel
theorem dX10_hasGuard_7 : decode cX10_hasGuard 7 = .ok (.iconst 0, 1) := by decide +kernel
theorem dX10_hasGuard_8 : decode cX10_hasGuard 8 = .ok (.iaload, 1) := by decide +kernel
theorem dX10_hasGuard_9 : decode cX10_hasGuard 9 = .ok (.if_icmp .ge 37, 3) := by decide +kernel
theorem dX10_hasGuard_12 : decode cX10_hasGuard 12 = .ok (.iload_n 1, 1) := by decide +kernel
theorem dX10_hasGuard_13 : decode cX10_hasGuard 13 = .ok (.ifCond .lt 27, 3) := by decide +kernel
theorem dX10_hasGuard_16 : decode cX10_hasGuard 16 = .ok (.aload_n 0, 1) := by decide +kernel
theorem dX10_hasGuard_17 : decode cX10_hasGuard 17 = .ok (.getfield 59, 3) := by decide +kernel
theorem dX10_hasGuard_20 : decode cX10_hasGuard 20 = .ok (.bipush 8, 2) := by decide +kernel
theorem dX10_hasGuard_22 : decode cX10_hasGuard 22 = .ok (.iload_n 3, 1) := by decide +kernel
theorem dX10_hasGuard_23 : decode cX10_hasGuard 23 = .ok (.imul, 1) := by decide +kernel
theorem dX10_hasGuard_24 : decode cX10_hasGuard 24 = .ok (.iload_n 2, 1) := by decide +kernel
theorem dX10_hasGuard_25 : decode cX10_hasGuard 25 = .ok (.aload_n 0, 1) := by decide +kernel
theorem dX10_hasGuard_26 : decode cX10_hasGuard 26 = .ok (.getfield 56, 3) := by decide +kernel
theorem dX10_hasGuard_29 : decode cX10_hasGuard 29 = .ok (.iload_n 3, 1) := by decide +kernel
theorem dX10_hasGuard_30 : decode cX10_hasGuard 30 = .ok (.iaload, 1) := by decide +kernel
theorem dX10_hasGuard_31 : decode cX10_hasGuard 31 = .ok (.irem, 1) := by decide +kernel
theorem dX10_hasGuard_32 : decode cX10_hasGuard 32 = .ok (.iadd, 1) := by decide +kernel
theorem dX10_hasGuard_33 : decode cX10_hasGuard 33 = .ok (.iaload, 1) := by decide +kernel
theorem dX10_hasGuard_34 : decode cX10_hasGuard 34 = .ok (.iload_n 1, 1) := by decide +kernel
theorem dX10_hasGuard_35 : decode cX10_hasGuard 35 = .ok (.if_icmp .ne 5, 3) := by decide +kernel
theorem dX10_hasGuard_38 : decode cX10_hasGuard 38 = .ok (.iconst 1, 1) := by decide +kernel
theorem dX10_hasGuard_39 : decode cX10_hasGuard 39 = .ok (.ireturn, 1) := by decide +kernel
theorem dX10_hasGuard_40 : decode cX10_hasGuard 40 = .ok (.iinc 3 1, 3) := by decide +kernel
theorem dX10_hasGuard_43 : decode cX10_hasGuard 43 = .ok (.goto (-41), 3) := by decide +kernel
theorem dX10_hasGuard_46 : decode cX10_hasGuard 46 = .ok (.iconst 0, 1) := by decide +kernel
theorem dX10_hasGuard_47 : decode cX10_hasGuard 47 = .ok (.ireturn, 1) := by decide +kernel
theorem dX10_guardsIn_0 : decode cX10_guardsIn 0 = .ok (.iconst 0, 1) := by decide +kernel
theorem dX10_guardsIn_1 : decode cX10_guardsIn 1 = .ok (.istore_n 3, 1) := by decide +kernel
theorem dX10_guardsIn_2 : decode cX10_guardsIn 2 = .ok (.iconst 0, 1) := by decide +kernel
theorem dX10_guardsIn_3 : decode cX10_guardsIn 3 = .ok (.istore 4, 2) := by decide +kernel
theorem dX10_guardsIn_5 : decode cX10_guardsIn 5 = .ok (.iload 4, 2) := by decide +kernel
theorem dX10_guardsIn_7 : decode cX10_guardsIn 7 = .ok (.aload_n 0, 1) := by decide +kernel
theorem dX10_guardsIn_8 : decode cX10_guardsIn 8 = .ok (.getfield 22, 3) := by decide +kernel
theorem dX10_guardsIn_11 : decode cX10_guardsIn 11 = .ok (.iconst 0, 1) := by decide +kernel
theorem dX10_guardsIn_12 : decode cX10_guardsIn 12 = .ok (.iaload, 1) := by decide +kernel
theorem dX10_guardsIn_13 : decode cX10_guardsIn 13 = .ok (.if_icmp .ge 45, 3) := by decide +kernel
theorem dX10_guardsIn_16 : decode cX10_guardsIn 16 = .ok (.iload_n 3, 1) := by decide +kernel
theorem dX10_guardsIn_17 : decode cX10_guardsIn 17 = .ok (.iload_n 1, 1) := by decide +kernel
theorem dX10_guardsIn_18 : decode cX10_guardsIn 18 = .ok (.ifCond .lt 31, 3) := by decide +kernel
theorem dX10_guardsIn_21 : decode cX10_guardsIn 21 = .ok (.aload_n 0, 1) := by decide +kernel
theorem dX10_guardsIn_22 : decode cX10_guardsIn 22 = .ok (.getfield 59, 3) := by decide +kernel
theorem dX10_guardsIn_25 : decode cX10_guardsIn 25 = .ok (.bipush 8, 2) := by decide +kernel
theorem dX10_guardsIn_27 : decode cX10_guardsIn 27 = .ok (.iload 4, 2) := by decide +kernel
theorem dX10_guardsIn_29 : decode cX10_guardsIn 29 = .ok (.imul, 1) := by decide +kernel
theorem dX10_guardsIn_30 : decode cX10_guardsIn 30 = .ok (.iload_n 2, 1) := by decide +kernel
theorem dX10_guardsIn_31 : decode cX10_guardsIn 31 = .ok (.aload_n 0, 1) := by decide +kernel
theorem dX10_guardsIn_32 : decode cX10_guardsIn 32 = .ok (.getfield 56, 3) := by decide +kernel
theorem dX10_guardsIn_35 : decode cX10_guardsIn 35 = .ok (.iload 4, 2) := by decide +kernel
theorem dX10_guardsIn_37 : decode cX10_guardsIn 37 = .ok (.iaload, 1) := by decide +kernel
theorem dX10_guardsIn_38 : decode cX10_guardsIn 38 = .ok (.irem, 1) := by decide +kernel
theorem dX10_guardsIn_39 : decode cX10_guardsIn 39 = .ok (.iadd, 1) := by decide +kernel
theorem dX10_guardsIn_40 : decode cX10_guardsIn 40 = .ok (.iaload, 1) := by decide +kernel
theorem dX10_guardsIn_41 : decode cX10_guardsIn 41 = .ok (.iload_n 1, 1) := by decide +kernel
theorem dX10_guardsIn_42 : decode cX10_guardsIn 42 = .ok (.if_icmp .ne 7, 3) := by decide +kernel
theorem dX10_guardsIn_45 : decode cX10_guardsIn 45 = .ok (.iconst 1, 1) := by decide +kernel
theorem dX10_guardsIn_46 : decode cX10_guardsIn 46 = .ok (.goto 4, 3) := by decide +kernel
theorem dX10_guardsIn_49 : decode cX10_guardsIn 49 = .ok (.iconst 0, 1) := by decide +kernel
theorem dX10_guardsIn_50 : decode cX10_guardsIn 50 = .ok (.iadd, 1) := by decide +kernel
theorem dX10_guardsIn_51 : decode cX10_guardsIn 51 = .ok (.istore_n 3, 1) := by decide +kernel
theorem dX10_guardsIn_52 : decode cX10_guardsIn 52 = .ok (.iinc 4 1, 3) := by decide +kernel
theorem dX10_guardsIn_55 : decode cX10_guardsIn 55 = .ok (.goto (-50), 3) := by decide +kernel
theorem dX10_guardsIn_58 : decode cX10_guardsIn 58 = .ok (.iload_n 3, 1) := by decide +kernel
theorem dX10_guardsIn_59 : decode cX10_guardsIn 59 = .ok (.ireturn, 1) := by decide +kernel
theorem dX10_menIn_0 : decode cX10_menIn 0 = .ok (.iconst 0, 1) := by decide +kernel
theorem dX10_menIn_1 : decode cX10_menIn 1 = .ok (.istore_n 2, 1) := by decide +kernel
theorem dX10_menIn_2 : decode cX10_menIn 2 = .ok (.iconst 0, 1) := by decide +kernel
theorem dX10_menIn_3 : decode cX10_menIn 3 = .ok (.istore_n 3, 1) := by decide +kernel
theorem dX10_menIn_4 : decode cX10_menIn 4 = .ok (.iload_n 3, 1) := by decide +kernel
theorem dX10_menIn_5 : decode cX10_menIn 5 = .ok (.aload_n 0, 1) := by decide +kernel
theorem dX10_menIn_6 : decode cX10_menIn 6 = .ok (.getfield 19, 3) := by decide +kernel
theorem dX10_menIn_9 : decode cX10_menIn 9 = .ok (.iconst 0, 1) := by decide +kernel
theorem dX10_menIn_10 : decode cX10_menIn 10 = .ok (.iaload, 1) := by decide +kernel
theorem dX10_menIn_11 : decode cX10_menIn 11 = .ok (.if_icmp .ge 36, 3) := by decide +kernel
theorem dX10_menIn_14 : decode cX10_menIn 14 = .ok (.iload_n 2, 1) := by decide +kernel
theorem dX10_menIn_15 : decode cX10_menIn 15 = .ok (.iload_n 1, 1) := by decide +kernel
theorem dX10_menIn_16 : decode cX10_menIn 16 = .ok (.ifCond .lt 22, 3) := by decide +kernel
theorem dX10_menIn_19 : decode cX10_menIn 19 = .ok (.aload_n 0, 1) := by decide +kernel
theorem dX10_menIn_20 : decode cX10_menIn 20 = .ok (.getfield 108, 3) := by decide +kernel
theorem dX10_menIn_23 : decode cX10_menIn 23 = .ok (.bipush 68, 2) := by decide +kernel
theorem dX10_menIn_25 : decode cX10_menIn 25 = .ok (.iload_n 3, 1) := by decide +kernel
theorem dX10_menIn_26 : decode cX10_menIn 26 = .ok (.iadd, 1) := by decide +kernel
theorem dX10_menIn_27 : decode cX10_menIn 27 = .ok (.iaload, 1) := by decide +kernel
theorem dX10_menIn_28 : decode cX10_menIn 28 = .ok (.iload_n 1, 1) := by decide +kernel
theorem dX10_menIn_29 : decode cX10_menIn 29 = .ok (.if_icmp .ne 9, 3) := by decide +kernel
theorem dX10_menIn_32 : decode cX10_menIn 32 = .ok (.iconst 1, 1) := by decide +kernel
theorem dX10_menIn_33 : decode cX10_menIn 33 = .ok (.iload_n 3, 1) := by decide +kernel
theorem dX10_menIn_34 : decode cX10_menIn 34 = .ok (.ishl, 1) := by decide +kernel
theorem dX10_menIn_35 : decode cX10_menIn 35 = .ok (.goto 4, 3) := by decide +kernel
theorem dX10_menIn_38 : decode cX10_menIn 38 = .ok (.iconst 0, 1) := by decide +kernel
theorem dX10_menIn_39 : decode cX10_menIn 39 = .ok (.ior, 1) := by decide +kernel
theorem dX10_menIn_40 : decode cX10_menIn 40 = .ok (.istore_n 2, 1) := by decide +kernel
theorem dX10_menIn_41 : decode cX10_menIn 41 = .ok (.iinc 3 1, 3) := by decide +kernel
theorem dX10_menIn_44 : decode cX10_menIn 44 = .ok (.goto (-40), 3) := by decide +kernel
theorem dX10_menIn_47 : decode cX10_menIn 47 = .ok (.iload_n 2, 1) := by decide +kernel
theorem dX10_menIn_48 : decode cX10_menIn 48 = .ok (.ireturn, 1) := by decide +kernel
theorem dX10_bits_0 : decode cX10_bits 0 = .ok (.iconst 0, 1) := by decide +kernel
theorem dX10_bits_1 : decode cX10_bits 1 = .ok (.istore_n 1, 1) := by decide +kernel
theorem dX10_bits_2 : decode cX10_bits 2 = .ok (.iconst 0, 1) := by decide +kernel
theorem dX10_bits_3 : decode cX10_bits 3 = .ok (.istore_n 2, 1) := by decide +kernel
theorem dX10_bits_4 : decode cX10_bits 4 = .ok (.iload_n 2, 1) := by decide +kernel
theorem dX10_bits_5 : decode cX10_bits 5 = .ok (.bipush 6, 2) := by decide +kernel
theorem dX10_bits_7 : decode cX10_bits 7 = .ok (.if_icmp .ge 17, 3) := by decide +kernel
theorem dX10_bits_10 : decode cX10_bits 10 = .ok (.iload_n 1, 1) := by decide +kernel
theorem dX10_bits_11 : decode cX10_bits 11 = .ok (.iload_n 0, 1) := by decide +kernel
theorem dX10_bits_12 : decode cX10_bits 12 = .ok (.iload_n 2, 1) := by decide +kernel
theorem dX10_bits_13 : decode cX10_bits 13 = .ok (.ishr, 1) := by decide +kernel
theorem dX10_bits_14 : decode cX10_bits 14 = .ok (.iconst 1, 1) := by decide +kernel
theorem dX10_bits_15 : decode cX10_bits 15 = .ok (.iand, 1) := by decide +kernel
theorem dX10_bits_16 : decode cX10_bits 16 = .ok (.iadd, 1) := by decide +kernel
theorem dX10_bits_17 : decode cX10_bits 17 = .ok (.istore_n 1, 1) := by decide +kernel
theorem dX10_bits_18 : decode cX10_bits 18 = .ok (.iinc 2 1, 3) := by decide +kernel
theorem dX10_bits_21 : decode cX10_bits 21 = .ok (.goto (-17), 3) := by decide +kernel
theorem dX10_bits_24 : decode cX10_bits 24 = .ok (.iload_n 1, 1) := by decide +kernel
theorem dX10_bits_25 : decode cX10_bits 25 = .ok (.ireturn, 1) := by decide +kernel
theorem dX10_cell_0 : decode cX10_cell 0 = .ok (.aload_n 0, 1) := by decide +kernel
theorem dX10_cell_1 : decode cX10_cell 1 = .ok (.iconst 0, 1) := by decide +kernel
theorem dX10_cell_2 : decode cX10_cell 2 = .ok (.putfield 135, 3) := by decide +kernel
theorem dX10_cell_5 : decode cX10_cell 5 = .ok (.aload_n 0, 1) := by decide +kernel
theorem dX10_cell_6 : decode cX10_cell 6 = .ok (.iload_n 1, 1) := by decide +kernel
theorem dX10_cell_7 : decode cX10_cell 7 = .ok (.invokevirtual 327, 3) := by decide +kernel
theorem dX10_cell_10 : decode cX10_cell 10 = .ok (.ifCond .eq 12, 3) := by decide +kernel
theorem dX10_cell_13 : decode cX10_cell 13 = .ok (.iload_n 2, 1) := by decide +kernel
theorem dX10_cell_14 : decode cX10_cell 14 = .ok (.iconst 0, 1) := by decide +kernel
theorem dX10_cell_15 : decode cX10_cell 15 = .ok (.iconst 3, 1) := by decide +kernel
theorem dX10_cell_16 : decode cX10_cell 16 = .ok (.invokestatic 263, 3) := by decide +kernel
theorem dX10_cell_19 : decode cX10_cell 19 = .ok (.ifCond .ne 5, 3) := by decide +kernel
theorem dX10_cell_22 : decode cX10_cell 22 = .ok (.iconst (-1), 1) := by decide +kernel
theorem dX10_cell_23 : decode cX10_cell 23 = .ok (.ireturn, 1) := by decide +kernel
theorem dX10_cell_24 : decode cX10_cell 24 = .ok (.iload_n 2, 1) := by decide +kernel
theorem dX10_cell_25 : decode cX10_cell 25 = .ok (.iconst 2, 1) := by decide +kernel
theorem dX10_cell_26 : decode cX10_cell 26 = .ok (.if_icmp .ge 25, 3) := by decide +kernel
theorem dX10_cell_29 : decode cX10_cell 29 = .ok (.iload_n 2, 1) := by decide +kernel
theorem dX10_cell_30 : decode cX10_cell 30 = .ok (.ifCond .ne 15, 3) := by decide +kernel
theorem dX10_cell_33 : decode cX10_cell 33 = .ok (.aload_n 0, 1) := by decide +kernel
theorem dX10_cell_34 : decode cX10_cell 34 = .ok (.getfield 108, 3) := by decide +kernel
theorem dX10_cell_37 : decode cX10_cell 37 = .ok (.bipush 60, 2) := by decide +kernel
theorem dX10_cell_39 : decode cX10_cell 39 = .ok (.iload_n 1, 1) := by decide +kernel
theorem dX10_cell_40 : decode cX10_cell 40 = .ok (.iadd, 1) := by decide +kernel
theorem dX10_cell_41 : decode cX10_cell 41 = .ok (.iaload, 1) := by decide +kernel
theorem dX10_cell_42 : decode cX10_cell 42 = .ok (.goto 8, 3) := by decide +kernel
theorem dX10_cell_45 : decode cX10_cell 45 = .ok (.aload_n 0, 1) := by decide +kernel
theorem dX10_cell_46 : decode cX10_cell 46 = .ok (.iload_n 1, 1) := by decide +kernel
theorem dX10_cell_47 : decode cX10_cell 47 = .ok (.invokevirtual 330, 3) := by decide +kernel
theorem dX10_cell_50 : decode cX10_cell 50 = .ok (.ireturn, 1) := by decide +kernel
theorem dX10_cell_51 : decode cX10_cell 51 = .ok (.iload_n 2, 1) := by decide +kernel
theorem dX10_cell_52 : decode cX10_cell 52 = .ok (.iconst 2, 1) := by decide +kernel
theorem dX10_cell_53 : decode cX10_cell 53 = .ok (.if_icmp .ne 18, 3) := by decide +kernel
theorem dX10_cell_56 : decode cX10_cell 56 = .ok (.aload_n 0, 1) := by decide +kernel
theorem dX10_cell_57 : decode cX10_cell 57 = .ok (.iload_n 1, 1) := by decide +kernel
theorem dX10_cell_58 : decode cX10_cell 58 = .ok (.aload_n 0, 1) := by decide +kernel
theorem dX10_cell_59 : decode cX10_cell 59 = .ok (.getfield 108, 3) := by decide +kernel
theorem dX10_cell_62 : decode cX10_cell 62 = .ok (.bipush 80, 2) := by decide +kernel
theorem dX10_cell_64 : decode cX10_cell 64 = .ok (.iaload, 1) := by decide +kernel
theorem dX10_cell_65 : decode cX10_cell 65 = .ok (.invokevirtual 333, 3) := by decide +kernel
theorem dX10_cell_68 : decode cX10_cell 68 = .ok (.goto 22, 3) := by decide +kernel
theorem dX10_cell_71 : decode cX10_cell 71 = .ok (.aload_n 0, 1) := by decide +kernel
theorem dX10_cell_72 : decode cX10_cell 72 = .ok (.getfield 117, 3) := by decide +kernel
theorem dX10_cell_75 : decode cX10_cell 75 = .ok (.iload_n 1, 1) := by decide +kernel
theorem dX10_cell_76 : decode cX10_cell 76 = .ok (.iaload, 1) := by decide +kernel
theorem dX10_cell_77 : decode cX10_cell 77 = .ok (.ifCond .ne 7, 3) := by decide +kernel
theorem dX10_cell_80 : decode cX10_cell 80 = .ok (.iconst (-1), 1) := by decide +kernel
theorem dX10_cell_81 : decode cX10_cell 81 = .ok (.goto 9, 3) := by decide +kernel
theorem dX10_cell_84 : decode cX10_cell 84 = .ok (.aload_n 0, 1) := by decide +kernel
theorem dX10_cell_85 : decode cX10_cell 85 = .ok (.getfield 117, 3) := by decide +kernel
theorem dX10_cell_88 : decode cX10_cell 88 = .ok (.iload_n 1, 1) := by decide +kernel
theorem dX10_cell_89 : decode cX10_cell 89 = .ok (.iaload, 1) := by decide +kernel
theorem dX10_cell_90 : decode cX10_cell 90 = .ok (.ireturn, 1) := by decide +kernel
theorem dX10_door_0 : decode cX10_door 0 = .ok (.aload_n 0, 1) := by decide +kernel
theorem dX10_door_1 : decode cX10_door 1 = .ok (.iconst 0, 1) := by decide +kernel
theorem dX10_door_2 : decode cX10_door 2 = .ok (.putfield 135, 3) := by decide +kernel
theorem dX10_door_5 : decode cX10_door 5 = .ok (.aload_n 0, 1) := by decide +kernel
theorem dX10_door_6 : decode cX10_door 6 = .ok (.iload_n 1, 1) := by decide +kernel
theorem dX10_door_7 : decode cX10_door 7 = .ok (.invokevirtual 337, 3) := by decide +kernel
theorem dX10_door_10 : decode cX10_door 10 = .ok (.ifCond .eq 12, 3) := by decide +kernel
theorem dX10_door_13 : decode cX10_door 13 = .ok (.iload_n 2, 1) := by decide +kernel
theorem dX10_door_14 : decode cX10_door 14 = .ok (.iconst 0, 1) := by decide +kernel
theorem dX10_door_15 : decode cX10_door 15 = .ok (.iconst 4, 1) := by decide +kernel
theorem dX10_door_16 : decode cX10_door 16 = .ok (.invokestatic 263, 3) := by decide +kernel
theorem dX10_door_19 : decode cX10_door 19 = .ok (.ifCond .ne 5, 3) := by decide +kernel
theorem dX10_door_22 : decode cX10_door 22 = .ok (.iconst (-1), 1) := by decide +kernel
theorem dX10_door_23 : decode cX10_door 23 = .ok (.ireturn, 1) := by decide +kernel
theorem dX10_door_24 : decode cX10_door 24 = .ok (.iload_n 2, 1) := by decide +kernel
theorem dX10_door_25 : decode cX10_door 25 = .ok (.ifCond .ne 12, 3) := by decide +kernel
theorem dX10_door_28 : decode cX10_door 28 = .ok (.aload_n 0, 1) := by decide +kernel
theorem dX10_door_29 : decode cX10_door 29 = .ok (.getfield 108, 3) := by decide +kernel
theorem dX10_door_32 : decode cX10_door 32 = .ok (.iload_n 1, 1) := by decide +kernel
theorem dX10_door_33 : decode cX10_door 33 = .ok (.iaload, 1) := by decide +kernel
theorem dX10_door_34 : decode cX10_door 34 = .ok (.goto 57, 3) := by decide +kernel
theorem dX10_door_37 : decode cX10_door 37 = .ok (.iload_n 2, 1) := by decide +kernel
theorem dX10_door_38 : decode cX10_door 38 = .ok (.iconst 1, 1) := by decide +kernel
theorem dX10_door_39 : decode cX10_door 39 = .ok (.if_icmp .ne 15, 3) := by decide +kernel
theorem dX10_door_42 : decode cX10_door 42 = .ok (.aload_n 0, 1) := by decide +kernel
theorem dX10_door_43 : decode cX10_door 43 = .ok (.getfield 108, 3) := by decide +kernel
theorem dX10_door_46 : decode cX10_door 46 = .ok (.bipush 10, 2) := by decide +kernel
theorem dX10_door_48 : decode cX10_door 48 = .ok (.iload_n 1, 1) := by decide +kernel
theorem dX10_door_49 : decode cX10_door 49 = .ok (.iadd, 1) := by decide +kernel
theorem dX10_door_50 : decode cX10_door 50 = .ok (.iaload, 1) := by decide +kernel
theorem dX10_door_51 : decode cX10_door 51 = .ok (.goto 40, 3) := by decide +kernel
theorem dX10_door_54 : decode cX10_door 54 = .ok (.iload_n 2, 1) := by decide +kernel
theorem dX10_door_55 : decode cX10_door 55 = .ok (.iconst 2, 1) := by decide +kernel
theorem dX10_door_56 : decode cX10_door 56 = .ok (.if_icmp .ne 15, 3) := by decide +kernel
theorem dX10_door_59 : decode cX10_door 59 = .ok (.aload_n 0, 1) := by decide +kernel
theorem dX10_door_60 : decode cX10_door 60 = .ok (.getfield 108, 3) := by decide +kernel
theorem dX10_door_63 : decode cX10_door 63 = .ok (.bipush 20, 2) := by decide +kernel
theorem dX10_door_65 : decode cX10_door 65 = .ok (.iload_n 1, 1) := by decide +kernel
theorem dX10_door_66 : decode cX10_door 66 = .ok (.iadd, 1) := by decide +kernel
theorem dX10_door_67 : decode cX10_door 67 = .ok (.iaload, 1) := by decide +kernel
theorem dX10_door_68 : decode cX10_door 68 = .ok (.goto 23, 3) := by decide +kernel
theorem dX10_door_71 : decode cX10_door 71 = .ok (.iload_n 2, 1) := by decide +kernel
theorem dX10_door_72 : decode cX10_door 72 = .ok (.iconst 3, 1) := by decide +kernel
theorem dX10_door_73 : decode cX10_door 73 = .ok (.if_icmp .ne 12, 3) := by decide +kernel
theorem dX10_door_76 : decode cX10_door 76 = .ok (.aload_n 0, 1) := by decide +kernel
theorem dX10_door_77 : decode cX10_door 77 = .ok (.getfield 38, 3) := by decide +kernel
theorem dX10_door_80 : decode cX10_door 80 = .ok (.iload_n 1, 1) := by decide +kernel
theorem dX10_door_81 : decode cX10_door 81 = .ok (.iaload, 1) := by decide +kernel
theorem dX10_door_82 : decode cX10_door 82 = .ok (.goto 9, 3) := by decide +kernel
theorem dX10_door_85 : decode cX10_door 85 = .ok (.aload_n 0, 1) := by decide +kernel
theorem dX10_door_86 : decode cX10_door 86 = .ok (.getfield 41, 3) := by decide +kernel
theorem dX10_door_89 : decode cX10_door 89 = .ok (.iload_n 1, 1) := by decide +kernel
theorem dX10_door_90 : decode cX10_door 90 = .ok (.iaload, 1) := by decide +kernel
theorem dX10_door_91 : decode cX10_door 91 = .ok (.ireturn, 1) := by decide +kernel
theorem dX10_man_0 : decode cX10_man 0 = .ok (.aload_n 0, 1) := by decide +kernel
theorem dX10_man_1 : decode cX10_man 1 = .ok (.aload_n 0, 1) := by decide +kernel
theorem dX10_man_2 : decode cX10_man 2 = .ok (.iload_n 1, 1) := by decide +kernel
theorem dX10_man_3 : decode cX10_man 3 = .ok (.invokevirtual 324, 3) := by decide +kernel
theorem dX10_man_6 : decode cX10_man 6 = .ok (.ifCond .eq 16, 3) := by decide +kernel
theorem dX10_man_9 : decode cX10_man 9 = .ok (.iload_n 2, 1) := by decide +kernel
theorem dX10_man_10 : decode cX10_man 10 = .ok (.iconst 0, 1) := by decide +kernel
theorem dX10_man_11 : decode cX10_man 11 = .ok (.iconst 2, 1) := by decide +kernel
theorem dX10_man_12 : decode cX10_man 12 = .ok (.invokestatic 263, 3) := by decide +kernel
theorem dX10_man_15 : decode cX10_man 15 = .ok (.ifCond .eq 7, 3) := by decide +kernel
theorem dX10_man_18 : decode cX10_man 18 = .ok (.iconst 0, 1) := by decide +kernel
theorem dX10_man_19 : decode cX10_man 19 = .ok (.goto 4, 3) := by decide +kernel
theorem dX10_man_22 : decode cX10_man 22 = .ok (.iconst 1, 1) := by decide +kernel
theorem dX10_man_23 : decode cX10_man 23 = .ok (.putfield 135, 3) := by decide +kernel
theorem dX10_man_26 : decode cX10_man 26 = .ok (.aload_n 0, 1) := by decide +kernel
theorem dX10_man_27 : decode cX10_man 27 = .ok (.getfield 135, 3) := by decide +kernel
theorem dX10_man_30 : decode cX10_man 30 = .ok (.iconst 1, 1) := by decide +kernel
theorem dX10_man_31 : decode cX10_man 31 = .ok (.if_icmp .ne 5, 3) := by decide +kernel
theorem dX10_man_34 : decode cX10_man 34 = .ok (.iconst 0, 1) := by decide +kernel
theorem dX10_man_35 : decode cX10_man 35 = .ok (.ireturn, 1) := by decide +kernel
theorem dX10_man_36 : decode cX10_man 36 = .ok (.iload_n 2, 1) := by decide +kernel
theorem dX10_man_37 : decode cX10_man 37 = .ok (.ifCond .ne 15, 3) := by decide +kernel
theorem dX10_man_40 : decode cX10_man 40 = .ok (.aload_n 0, 1) := by decide +kernel
theorem dX10_man_41 : decode cX10_man 41 = .ok (.getfield 108, 3) := by decide +kernel
theorem dX10_man_44 : decode cX10_man 44 = .ok (.bipush 68, 2) := by decide +kernel
theorem dX10_man_46 : decode cX10_man 46 = .ok (.iload_n 1, 1) := by decide +kernel
theorem dX10_man_47 : decode cX10_man 47 = .ok (.iadd, 1) := by decide +kernel
theorem dX10_man_48 : decode cX10_man 48 = .ok (.iaload, 1) := by decide +kernel
theorem dX10_man_49 : decode cX10_man 49 = .ok (.goto 26, 3) := by decide +kernel
theorem dX10_man_52 : decode cX10_man 52 = .ok (.iload_n 2, 1) := by decide +kernel
theorem dX10_man_53 : decode cX10_man 53 = .ok (.iconst 1, 1) := by decide +kernel
theorem dX10_man_54 : decode cX10_man 54 = .ok (.if_icmp .ne 15, 3) := by decide +kernel
theorem dX10_man_57 : decode cX10_man 57 = .ok (.aload_n 0, 1) := by decide +kernel
theorem dX10_man_58 : decode cX10_man 58 = .ok (.getfield 108, 3) := by decide +kernel
theorem dX10_man_61 : decode cX10_man 61 = .ok (.bipush 74, 2) := by decide +kernel
theorem dX10_man_63 : decode cX10_man 63 = .ok (.iload_n 1, 1) := by decide +kernel
theorem dX10_man_64 : decode cX10_man 64 = .ok (.iadd, 1) := by decide +kernel
theorem dX10_man_65 : decode cX10_man 65 = .ok (.iaload, 1) := by decide +kernel
theorem dX10_man_66 : decode cX10_man 66 = .ok (.goto 9, 3) := by decide +kernel
theorem dX10_man_69 : decode cX10_man 69 = .ok (.aload_n 0, 1) := by decide +kernel
theorem dX10_man_70 : decode cX10_man 70 = .ok (.getfield 53, 3) := by decide +kernel
theorem dX10_man_73 : decode cX10_man 73 = .ok (.iload_n 1, 1) := by decide +kernel
theorem dX10_man_74 : decode cX10_man 74 = .ok (.iaload, 1) := by decide +kernel
theorem dX10_man_75 : decode cX10_man 75 = .ok (.ireturn, 1) := by decide +kernel
theorem dX10_degreesAt_0 : decode cX10_degreesAt 0 = .ok (.aload_n 0, 1) := by decide +kernel
theorem dX10_degreesAt_1 : decode cX10_degreesAt 1 = .ok (.getfield 65, 3) := by decide +kernel
theorem dX10_degreesAt_4 : decode cX10_degreesAt 4 = .ok (.iconst 0, 1) := by decide +kernel
theorem dX10_degreesAt_5 : decode cX10_degreesAt 5 = .ok (.iaload, 1) := by decide +kernel
theorem dX10_degreesAt_6 : decode cX10_degreesAt 6 = .ok (.aload_n 0, 1) := by decide +kernel
theorem dX10_degreesAt_7 : decode cX10_degreesAt 7 = .ok (.getfield 62, 3) := by decide +kernel
theorem dX10_degreesAt_10 : decode cX10_degreesAt 10 = .ok (.iconst 0, 1) := by decide +kernel
theorem dX10_degreesAt_11 : decode cX10_degreesAt 11 = .ok (.iaload, 1) := by decide +kernel
theorem dX10_degreesAt_12 : decode cX10_degreesAt 12 = .ok (.if_icmp .ne 6, 3) := by decide +kernel
theorem dX10_degreesAt_15 : decode cX10_degreesAt 15 = .ok (.bipush (-10), 2) := by decide +kernel
theorem dX10_degreesAt_17 : decode cX10_degreesAt 17 = .ok (.ireturn, 1) := by decide +kernel
theorem dX10_degreesAt_18 : decode cX10_degreesAt 18 = .ok (.aload_n 0, 1) := by decide +kernel
theorem dX10_degreesAt_19 : decode cX10_degreesAt 19 = .ok (.getfield 105, 3) := by decide +kernel
theorem dX10_degreesAt_22 : decode cX10_degreesAt 22 = .ok (.iconst 1, 1) := by decide +kernel
theorem dX10_degreesAt_23 : decode cX10_degreesAt 23 = .ok (.iload_n 1, 1) := by decide +kernel
theorem dX10_degreesAt_24 : decode cX10_degreesAt 24 = .ok (.bipush 24, 2) := by decide +kernel
theorem dX10_degreesAt_26 : decode cX10_degreesAt 26 = .ok (.irem, 1) := by decide +kernel
theorem dX10_degreesAt_27 : decode cX10_degreesAt 27 = .ok (.iastore, 1) := by decide +kernel
theorem dX10_degreesAt_28 : decode cX10_degreesAt 28 = .ok (.aload_n 0, 1) := by decide +kernel
theorem dX10_degreesAt_29 : decode cX10_degreesAt 29 = .ok (.getfield 105, 3) := by decide +kernel
theorem dX10_degreesAt_32 : decode cX10_degreesAt 32 = .ok (.iconst 2, 1) := by decide +kernel
theorem dX10_degreesAt_33 : decode cX10_degreesAt 33 = .ok (.iload_n 1, 1) := by decide +kernel
theorem dX10_degreesAt_34 : decode cX10_degreesAt 34 = .ok (.bipush 24, 2) := by decide +kernel
theorem dX10_degreesAt_36 : decode cX10_degreesAt 36 = .ok (.idiv, 1) := by decide +kernel
theorem dX10_degreesAt_37 : decode cX10_degreesAt 37 = .ok (.iastore, 1) := by decide +kernel
theorem dX10_degreesAt_38 : decode cX10_degreesAt 38 = .ok (.aload_n 0, 1) := by decide +kernel
theorem dX10_degreesAt_39 : decode cX10_degreesAt 39 = .ok (.getfield 105, 3) := by decide +kernel
theorem dX10_degreesAt_42 : decode cX10_degreesAt 42 = .ok (.iconst 3, 1) := by decide +kernel
theorem dX10_degreesAt_43 : decode cX10_degreesAt 43 = .ok (.iload_n 2, 1) := by decide +kernel
theorem dX10_degreesAt_44 : decode cX10_degreesAt 44 = .ok (.iastore, 1) := by decide +kernel
theorem dX10_degreesAt_45 : decode cX10_degreesAt 45 = .ok (.aload_n 0, 1) := by decide +kernel
theorem dX10_degreesAt_46 : decode cX10_degreesAt 46 = .ok (.iconst 0, 1) := by decide +kernel
theorem dX10_degreesAt_47 : decode cX10_degreesAt 47 = .ok (.invokevirtual 340, 3) := by decide +kernel
theorem dX10_degreesAt_50 : decode cX10_degreesAt 50 = .ok (.bipush (-40), 2) := by decide +kernel
theorem dX10_degreesAt_52 : decode cX10_degreesAt 52 = .ok (.bipush 40, 2) := by decide +kernel
theorem dX10_degreesAt_54 : decode cX10_degreesAt 54 = .ok (.invokestatic 343, 3) := by decide +kernel
theorem dX10_degreesAt_57 : decode cX10_degreesAt 57 = .ok (.ireturn, 1) := by decide +kernel
theorem dX10_degrees_0 : decode cX10_degrees 0 = .ok (.aload_n 0, 1) := by decide +kernel
theorem dX10_degrees_1 : decode cX10_degrees 1 = .ok (.iload_n 1, 1) := by decide +kernel
theorem dX10_degrees_2 : decode cX10_degrees 2 = .ok (.iconst 0, 1) := by decide +kernel
theorem dX10_degrees_3 : decode cX10_degrees 3 = .ok (.sipush 9999, 3) := by decide +kernel
theorem dX10_degrees_6 : decode cX10_degrees 6 = .ok (.invokestatic 263, 3) := by decide +kernel
theorem dX10_degrees_9 : decode cX10_degrees 9 = .ok (.ifCond .eq 7, 3) := by decide +kernel
theorem dX10_degrees_12 : decode cX10_degrees 12 = .ok (.iconst 0, 1) := by decide +kernel
theorem dX10_degrees_13 : decode cX10_degrees 13 = .ok (.goto 4, 3) := by decide +kernel
theorem dX10_degrees_16 : decode cX10_degrees 16 = .ok (.iconst 1, 1) := by decide +kernel
theorem dX10_degrees_17 : decode cX10_degrees 17 = .ok (.putfield 135, 3) := by decide +kernel
theorem dX10_degrees_20 : decode cX10_degrees 20 = .ok (.aload_n 0, 1) := by decide +kernel
theorem dX10_degrees_21 : decode cX10_degrees 21 = .ok (.getfield 135, 3) := by decide +kernel
theorem dX10_degrees_24 : decode cX10_degrees 24 = .ok (.iconst 1, 1) := by decide +kernel
theorem dX10_degrees_25 : decode cX10_degrees 25 = .ok (.if_icmp .ne 7, 3) := by decide +kernel
theorem dX10_degrees_28 : decode cX10_degrees 28 = .ok (.iconst 0, 1) := by decide +kernel
theorem dX10_degrees_29 : decode cX10_degrees 29 = .ok (.goto 17, 3) := by decide +kernel
theorem dX10_degrees_32 : decode cX10_degrees 32 = .ok (.aload_n 0, 1) := by decide +kernel
theorem dX10_degrees_33 : decode cX10_degrees 33 = .ok (.aload_n 0, 1) := by decide +kernel
theorem dX10_degrees_34 : decode cX10_degrees 34 = .ok (.getfield 108, 3) := by decide +kernel
theorem dX10_degrees_37 : decode cX10_degrees 37 = .ok (.bipush 80, 2) := by decide +kernel
theorem dX10_degrees_39 : decode cX10_degrees 39 = .ok (.iaload, 1) := by decide +kernel
theorem dX10_degrees_40 : decode cX10_degrees 40 = .ok (.iload_n 1, 1) := by decide +kernel
theorem dX10_degrees_41 : decode cX10_degrees 41 = .ok (.iadd, 1) := by decide +kernel
theorem dX10_degrees_42 : decode cX10_degrees 42 = .ok (.iconst 0, 1) := by decide +kernel
theorem dX10_degrees_43 : decode cX10_degrees 43 = .ok (.invokevirtual 347, 3) := by decide +kernel
theorem dX10_degrees_46 : decode cX10_degrees 46 = .ok (.ireturn, 1) := by decide +kernel
theorem dX10_poursIn_0 : decode cX10_poursIn 0 = .ok (.iload_n 2, 1) := by decide +kernel
theorem dX10_poursIn_1 : decode cX10_poursIn 1 = .ok (.bipush 99, 2) := by decide +kernel
theorem dX10_poursIn_3 : decode cX10_poursIn 3 = .ok (.aload_n 0, 1) := by decide +kernel
theorem dX10_poursIn_4 : decode cX10_poursIn 4 = .ok (.getfield 108, 3) := by decide +kernel
theorem dX10_poursIn_7 : decode cX10_poursIn 7 = .ok (.iload_n 1, 1) := by decide +kernel
theorem dX10_poursIn_8 : decode cX10_poursIn 8 = .ok (.iaload, 1) := by decide +kernel
theorem dX10_poursIn_9 : decode cX10_poursIn 9 = .ok (.isub, 1) := by decide +kernel
theorem dX10_poursIn_10 : decode cX10_poursIn 10 = .ok (.aload_n 0, 1) := by decide +kernel
theorem dX10_poursIn_11 : decode cX10_poursIn 11 = .ok (.getfield 108, 3) := by decide +kernel
theorem dX10_poursIn_14 : decode cX10_poursIn 14 = .ok (.bipush 10, 2) := by decide +kernel
theorem dX10_poursIn_16 : decode cX10_poursIn 16 = .ok (.iload_n 1, 1) := by decide +kernel
theorem dX10_poursIn_17 : decode cX10_poursIn 17 = .ok (.iadd, 1) := by decide +kernel
theorem dX10_poursIn_18 : decode cX10_poursIn 18 = .ok (.iaload, 1) := by decide +kernel
theorem dX10_poursIn_19 : decode cX10_poursIn 19 = .ok (.isub, 1) := by decide +kernel
theorem dX10_poursIn_20 : decode cX10_poursIn 20 = .ok (.invokestatic 350, 3) := by decide +kernel
theorem dX10_poursIn_23 : decode cX10_poursIn 23 = .ok (.istore_n 3, 1) := by decide +kernel
theorem dX10_poursIn_24 : decode cX10_poursIn 24 = .ok (.aload_n 0, 1) := by decide +kernel
theorem dX10_poursIn_25 : decode cX10_poursIn 25 = .ok (.getfield 108, 3) := by decide +kernel
theorem dX10_poursIn_28 : decode cX10_poursIn 28 = .ok (.bipush 10, 2) := by decide +kernel
theorem dX10_poursIn_30 : decode cX10_poursIn 30 = .ok (.iload_n 1, 1) := by decide +kernel
theorem dX10_poursIn_31 : decode cX10_poursIn 31 = .ok (.iadd, 1) := by decide +kernel
theorem dX10_poursIn_32 : decode cX10_poursIn 32 = .ok (.dup2, 1) := by decide +kernel
theorem dX10_poursIn_33 : decode cX10_poursIn 33 = .ok (.iaload, 1) := by decide +kernel
theorem dX10_poursIn_34 : decode cX10_poursIn 34 = .ok (.iload_n 3, 1) := by decide +kernel
theorem dX10_poursIn_35 : decode cX10_poursIn 35 = .ok (.iadd, 1) := by decide +kernel
theorem dX10_poursIn_36 : decode cX10_poursIn 36 = .ok (.iastore, 1) := by decide +kernel
theorem dX10_poursIn_37 : decode cX10_poursIn 37 = .ok (.aload_n 0, 1) := by decide +kernel
theorem dX10_poursIn_38 : decode cX10_poursIn 38 = .ok (.getfield 108, 3) := by decide +kernel
theorem dX10_poursIn_41 : decode cX10_poursIn 41 = .ok (.bipush 40, 2) := by decide +kernel
theorem dX10_poursIn_43 : decode cX10_poursIn 43 = .ok (.iload_n 1, 1) := by decide +kernel
theorem dX10_poursIn_44 : decode cX10_poursIn 44 = .ok (.iadd, 1) := by decide +kernel
theorem dX10_poursIn_45 : decode cX10_poursIn 45 = .ok (.dup2, 1) := by decide +kernel
theorem dX10_poursIn_46 : decode cX10_poursIn 46 = .ok (.iaload, 1) := by decide +kernel
theorem dX10_poursIn_47 : decode cX10_poursIn 47 = .ok (.iload_n 3, 1) := by decide +kernel
theorem dX10_poursIn_48 : decode cX10_poursIn 48 = .ok (.iadd, 1) := by decide +kernel
theorem dX10_poursIn_49 : decode cX10_poursIn 49 = .ok (.iastore, 1) := by decide +kernel
theorem dX10_poursIn_50 : decode cX10_poursIn 50 = .ok (.iload_n 3, 1) := by decide +kernel
theorem dX10_poursIn_51 : decode cX10_poursIn 51 = .ok (.ireturn, 1) := by decide +kernel
theorem dX10_pour_0 : decode cX10_pour 0 = .ok (.aload_n 0, 1) := by decide +kernel
theorem dX10_pour_1 : decode cX10_pour 1 = .ok (.iconst 0, 1) := by decide +kernel
theorem dX10_pour_2 : decode cX10_pour 2 = .ok (.putfield 135, 3) := by decide +kernel
theorem dX10_pour_5 : decode cX10_pour 5 = .ok (.aload_n 0, 1) := by decide +kernel
theorem dX10_pour_6 : decode cX10_pour 6 = .ok (.iload_n 1, 1) := by decide +kernel
theorem dX10_pour_7 : decode cX10_pour 7 = .ok (.invokevirtual 337, 3) := by decide +kernel
theorem dX10_pour_10 : decode cX10_pour 10 = .ok (.ifCond .eq 22, 3) := by decide +kernel
theorem dX10_pour_13 : decode cX10_pour 13 = .ok (.iload_n 2, 1) := by decide +kernel
theorem dX10_pour_14 : decode cX10_pour 14 = .ok (.iconst 0, 1) := by decide +kernel
theorem dX10_pour_15 : decode cX10_pour 15 = .ok (.bipush 99, 2) := by decide +kernel
theorem dX10_pour_17 : decode cX10_pour 17 = .ok (.invokestatic 263, 3) := by decide +kernel
theorem dX10_pour_20 : decode cX10_pour 20 = .ok (.ifCond .eq 12, 3) := by decide +kernel
theorem dX10_pour_23 : decode cX10_pour 23 = .ok (.aload_n 0, 1) := by decide +kernel
theorem dX10_pour_24 : decode cX10_pour 24 = .ok (.iload_n 1, 1) := by decide +kernel
theorem dX10_pour_25 : decode cX10_pour 25 = .ok (.iload_n 2, 1) := by decide +kernel
theorem dX10_pour_26 : decode cX10_pour 26 = .ok (.invokevirtual 355, 3) := by decide +kernel
theorem dX10_pour_29 : decode cX10_pour 29 = .ok (.goto 4, 3) := by decide +kernel
theorem dX10_pour_32 : decode cX10_pour 32 = .ok (.iconst (-1), 1) := by decide +kernel
theorem dX10_pour_33 : decode cX10_pour 33 = .ok (.ireturn, 1) := by decide +kernel
theorem dX10_salt_0 : decode cX10_salt 0 = .ok (.aload_n 0, 1) := by decide +kernel
theorem dX10_salt_1 : decode cX10_salt 1 = .ok (.iconst 0, 1) := by decide +kernel
theorem dX10_salt_2 : decode cX10_salt 2 = .ok (.putfield 135, 3) := by decide +kernel
theorem dX10_salt_5 : decode cX10_salt 5 = .ok (.aload_n 0, 1) := by decide +kernel
theorem dX10_salt_6 : decode cX10_salt 6 = .ok (.iload_n 1, 1) := by decide +kernel
theorem dX10_salt_7 : decode cX10_salt 7 = .ok (.invokevirtual 358, 3) := by decide +kernel
theorem dX10_salt_10 : decode cX10_salt 10 = .ok (.ifCond .eq 42, 3) := by decide +kernel
theorem dX10_salt_13 : decode cX10_salt 13 = .ok (.aload_n 0, 1) := by decide +kernel
theorem dX10_salt_14 : decode cX10_salt 14 = .ok (.iload_n 2, 1) := by decide +kernel
theorem dX10_salt_15 : decode cX10_salt 15 = .ok (.invokevirtual 337, 3) := by decide +kernel
theorem dX10_salt_18 : decode cX10_salt 18 = .ok (.ifCond .eq 34, 3) := by decide +kernel
theorem dX10_salt_21 : decode cX10_salt 21 = .ok (.aload_n 0, 1) := by decide +kernel
theorem dX10_salt_22 : decode cX10_salt 22 = .ok (.getfield 108, 3) := by decide +kernel
theorem dX10_salt_25 : decode cX10_salt 25 = .ok (.bipush 74, 2) := by decide +kernel
theorem dX10_salt_27 : decode cX10_salt 27 = .ok (.iload_n 1, 1) := by decide +kernel
theorem dX10_salt_28 : decode cX10_salt 28 = .ok (.iadd, 1) := by decide +kernel
theorem dX10_salt_29 : decode cX10_salt 29 = .ok (.iaload, 1) := by decide +kernel
theorem dX10_salt_30 : decode cX10_salt 30 = .ok (.ifCond .eq 22, 3) := by decide +kernel
theorem dX10_salt_33 : decode cX10_salt 33 = .ok (.aload_n 0, 1) := by decide +kernel
theorem dX10_salt_34 : decode cX10_salt 34 = .ok (.iload_n 2, 1) := by decide +kernel
theorem dX10_salt_35 : decode cX10_salt 35 = .ok (.aload_n 0, 1) := by decide +kernel
theorem dX10_salt_36 : decode cX10_salt 36 = .ok (.getfield 108, 3) := by decide +kernel
theorem dX10_salt_39 : decode cX10_salt 39 = .ok (.bipush 68, 2) := by decide +kernel
theorem dX10_salt_41 : decode cX10_salt 41 = .ok (.iload_n 1, 1) := by decide +kernel
theorem dX10_salt_42 : decode cX10_salt 42 = .ok (.iadd, 1) := by decide +kernel
theorem dX10_salt_43 : decode cX10_salt 43 = .ok (.iaload, 1) := by decide +kernel
theorem dX10_salt_44 : decode cX10_salt 44 = .ok (.invokevirtual 361, 3) := by decide +kernel
theorem dX10_salt_47 : decode cX10_salt 47 = .ok (.bipush (-2), 2) := by decide +kernel
theorem dX10_salt_49 : decode cX10_salt 49 = .ok (.if_icmp .ne 5, 3) := by decide +kernel
theorem dX10_salt_52 : decode cX10_salt 52 = .ok (.iconst 0, 1) := by decide +kernel
theorem dX10_salt_53 : decode cX10_salt 53 = .ok (.ireturn, 1) := by decide +kernel
theorem dX10_salt_54 : decode cX10_salt 54 = .ok (.aload_n 0, 1) := by decide +kernel
theorem dX10_salt_55 : decode cX10_salt 55 = .ok (.getfield 108, 3) := by decide +kernel
theorem dX10_salt_58 : decode cX10_salt 58 = .ok (.bipush 74, 2) := by decide +kernel
theorem dX10_salt_60 : decode cX10_salt 60 = .ok (.iload_n 1, 1) := by decide +kernel
theorem dX10_salt_61 : decode cX10_salt 61 = .ok (.iadd, 1) := by decide +kernel
theorem dX10_salt_62 : decode cX10_salt 62 = .ok (.dup2, 1) := by decide +kernel
theorem dX10_salt_63 : decode cX10_salt 63 = .ok (.iaload, 1) := by decide +kernel
theorem dX10_salt_64 : decode cX10_salt 64 = .ok (.iconst 1, 1) := by decide +kernel
theorem dX10_salt_65 : decode cX10_salt 65 = .ok (.isub, 1) := by decide +kernel
theorem dX10_salt_66 : decode cX10_salt 66 = .ok (.iastore, 1) := by decide +kernel
theorem dX10_salt_67 : decode cX10_salt 67 = .ok (.aload_n 0, 1) := by decide +kernel
theorem dX10_salt_68 : decode cX10_salt 68 = .ok (.getfield 108, 3) := by decide +kernel
theorem dX10_salt_71 : decode cX10_salt 71 = .ok (.bipush 20, 2) := by decide +kernel
theorem dX10_salt_73 : decode cX10_salt 73 = .ok (.iload_n 2, 1) := by decide +kernel
theorem dX10_salt_74 : decode cX10_salt 74 = .ok (.iadd, 1) := by decide +kernel
theorem dX10_salt_75 : decode cX10_salt 75 = .ok (.dup2, 1) := by decide +kernel
theorem dX10_salt_76 : decode cX10_salt 76 = .ok (.iaload, 1) := by decide +kernel
theorem dX10_salt_77 : decode cX10_salt 77 = .ok (.iconst 1, 1) := by decide +kernel
theorem dX10_salt_78 : decode cX10_salt 78 = .ok (.iadd, 1) := by decide +kernel
theorem dX10_salt_79 : decode cX10_salt 79 = .ok (.iastore, 1) := by decide +kernel
theorem dX10_salt_80 : decode cX10_salt 80 = .ok (.aload_n 0, 1) := by decide +kernel
theorem dX10_salt_81 : decode cX10_salt 81 = .ok (.getfield 108, 3) := by decide +kernel
theorem dX10_salt_84 : decode cX10_salt 84 = .ok (.bipush 50, 2) := by decide +kernel
theorem dX10_salt_86 : decode cX10_salt 86 = .ok (.iload_n 2, 1) := by decide +kernel
theorem dX10_salt_87 : decode cX10_salt 87 = .ok (.iadd, 1) := by decide +kernel
theorem dX10_salt_88 : decode cX10_salt 88 = .ok (.iaload, 1) := by decide +kernel
theorem dX10_salt_89 : decode cX10_salt 89 = .ok (.ifCond .ne 35, 3) := by decide +kernel
theorem dX10_salt_92 : decode cX10_salt 92 = .ok (.aload_n 0, 1) := by decide +kernel
theorem dX10_salt_93 : decode cX10_salt 93 = .ok (.getfield 108, 3) := by decide +kernel
theorem dX10_salt_96 : decode cX10_salt 96 = .ok (.bipush 50, 2) := by decide +kernel
theorem dX10_salt_98 : decode cX10_salt 98 = .ok (.iload_n 2, 1) := by decide +kernel
theorem dX10_salt_99 : decode cX10_salt 99 = .ok (.iadd, 1) := by decide +kernel
theorem dX10_salt_100 : decode cX10_salt 100 = .ok (.iconst 1, 1) := by decide +kernel
theorem dX10_salt_101 : decode cX10_salt 101 = .ok (.aload_n 0, 1) := by decide +kernel
theorem dX10_salt_102 : decode cX10_salt 102 = .ok (.aload_n 0, 1) := by decide +kernel
theorem dX10_salt_103 : decode cX10_salt 103 = .ok (.getfield 38, 3) := by decide +kernel
theorem dX10_salt_106 : decode cX10_salt 106 = .ok (.iload_n 2, 1) := by decide +kernel
theorem dX10_salt_107 : decode cX10_salt 107 = .ok (.iaload, 1) := by decide +kernel
theorem dX10_salt_108 : decode cX10_salt 108 = .ok (.invokevirtual 330, 3) := by decide +kernel
theorem dX10_salt_111 : decode cX10_salt 111 = .ok (.aload_n 0, 1) := by decide +kernel
theorem dX10_salt_112 : decode cX10_salt 112 = .ok (.aload_n 0, 1) := by decide +kernel
theorem dX10_salt_113 : decode cX10_salt 113 = .ok (.getfield 41, 3) := by decide +kernel
theorem dX10_salt_116 : decode cX10_salt 116 = .ok (.iload_n 2, 1) := by decide +kernel
theorem dX10_salt_117 : decode cX10_salt 117 = .ok (.iaload, 1) := by decide +kernel
theorem dX10_salt_118 : decode cX10_salt 118 = .ok (.invokevirtual 330, 3) := by decide +kernel
theorem dX10_salt_121 : decode cX10_salt 121 = .ok (.ior, 1) := by decide +kernel
theorem dX10_salt_122 : decode cX10_salt 122 = .ok (.iadd, 1) := by decide +kernel
theorem dX10_salt_123 : decode cX10_salt 123 = .ok (.iastore, 1) := by decide +kernel
theorem dX10_salt_124 : decode cX10_salt 124 = .ok (.iconst 1, 1) := by decide +kernel
theorem dX10_salt_125 : decode cX10_salt 125 = .ok (.ireturn, 1) := by decide +kernel
theorem dX10_stove_0 : decode cX10_stove 0 = .ok (.aload_n 0, 1) := by decide +kernel
theorem dX10_stove_1 : decode cX10_stove 1 = .ok (.iconst 0, 1) := by decide +kernel
theorem dX10_stove_2 : decode cX10_stove 2 = .ok (.putfield 135, 3) := by decide +kernel
theorem dX10_stove_5 : decode cX10_stove 5 = .ok (.aload_n 0, 1) := by decide +kernel
theorem dX10_stove_6 : decode cX10_stove 6 = .ok (.iload_n 1, 1) := by decide +kernel
theorem dX10_stove_7 : decode cX10_stove 7 = .ok (.invokevirtual 327, 3) := by decide +kernel
theorem dX10_stove_10 : decode cX10_stove 10 = .ok (.ifCond .eq 13, 3) := by decide +kernel
theorem dX10_stove_13 : decode cX10_stove 13 = .ok (.iload_n 2, 1) := by decide +kernel
theorem dX10_stove_14 : decode cX10_stove 14 = .ok (.iconst 0, 1) := by decide +kernel
theorem dX10_stove_15 : decode cX10_stove 15 = .ok (.bipush 9, 2) := by decide +kernel
theorem dX10_stove_17 : decode cX10_stove 17 = .ok (.invokestatic 263, 3) := by decide +kernel
theorem dX10_stove_20 : decode cX10_stove 20 = .ok (.ifCond .ne 5, 3) := by decide +kernel
theorem dX10_stove_23 : decode cX10_stove 23 = .ok (.iconst 0, 1) := by decide +kernel
theorem dX10_stove_24 : decode cX10_stove 24 = .ok (.ireturn, 1) := by decide +kernel
theorem dX10_stove_25 : decode cX10_stove 25 = .ok (.aload_n 0, 1) := by decide +kernel
theorem dX10_stove_26 : decode cX10_stove 26 = .ok (.getfield 108, 3) := by decide +kernel
theorem dX10_stove_29 : decode cX10_stove 29 = .ok (.bipush 60, 2) := by decide +kernel
theorem dX10_stove_31 : decode cX10_stove 31 = .ok (.iload_n 1, 1) := by decide +kernel
theorem dX10_stove_32 : decode cX10_stove 32 = .ok (.iadd, 1) := by decide +kernel
theorem dX10_stove_33 : decode cX10_stove 33 = .ok (.iload_n 2, 1) := by decide +kernel
theorem dX10_stove_34 : decode cX10_stove 34 = .ok (.iastore, 1) := by decide +kernel
theorem dX10_stove_35 : decode cX10_stove 35 = .ok (.iconst 1, 1) := by decide +kernel
theorem dX10_stove_36 : decode cX10_stove 36 = .ok (.ireturn, 1) := by decide +kernel
theorem dX10_pardon_0 : decode cX10_pardon 0 = .ok (.aload_n 0, 1) := by decide +kernel
theorem dX10_pardon_1 : decode cX10_pardon 1 = .ok (.iconst 0, 1) := by decide +kernel
theorem dX10_pardon_2 : decode cX10_pardon 2 = .ok (.putfield 135, 3) := by decide +kernel
theorem dX10_pardon_5 : decode cX10_pardon 5 = .ok (.aload_n 0, 1) := by decide +kernel
theorem dX10_pardon_6 : decode cX10_pardon 6 = .ok (.iload_n 1, 1) := by decide +kernel
theorem dX10_pardon_7 : decode cX10_pardon 7 = .ok (.invokevirtual 358, 3) := by decide +kernel
theorem dX10_pardon_10 : decode cX10_pardon 10 = .ok (.ifCond .ne 5, 3) := by decide +kernel
theorem dX10_pardon_13 : decode cX10_pardon 13 = .ok (.iconst 0, 1) := by decide +kernel
theorem dX10_pardon_14 : decode cX10_pardon 14 = .ok (.ireturn, 1) := by decide +kernel
theorem dX10_pardon_15 : decode cX10_pardon 15 = .ok (.aload_n 0, 1) := by decide +kernel
theorem dX10_pardon_16 : decode cX10_pardon 16 = .ok (.getfield 108, 3) := by decide +kernel
theorem dX10_pardon_19 : decode cX10_pardon 19 = .ok (.bipush 68, 2) := by decide +kernel
theorem dX10_pardon_21 : decode cX10_pardon 21 = .ok (.iload_n 1, 1) := by decide +kernel
theorem dX10_pardon_22 : decode cX10_pardon 22 = .ok (.iadd, 1) := by decide +kernel
theorem dX10_pardon_23 : decode cX10_pardon 23 = .ok (.iconst (-1), 1) := by decide +kernel
theorem dX10_pardon_24 : decode cX10_pardon 24 = .ok (.iastore, 1) := by decide +kernel
theorem dX10_pardon_25 : decode cX10_pardon 25 = .ok (.iconst 1, 1) := by decide +kernel
theorem dX10_pardon_26 : decode cX10_pardon 26 = .ok (.ireturn, 1) := by decide +kernel
theorem dX10_freezes_0 : decode cX10_freezes 0 = .ok (.aload_n 0, 1) := by decide +kernel
theorem dX10_freezes_1 : decode cX10_freezes 1 = .ok (.getfield 65, 3) := by decide +kernel
theorem dX10_freezes_4 : decode cX10_freezes 4 = .ok (.iconst 1, 1) := by decide +kernel
theorem dX10_freezes_5 : decode cX10_freezes 5 = .ok (.iaload, 1) := by decide +kernel
theorem dX10_freezes_6 : decode cX10_freezes 6 = .ok (.aload_n 0, 1) := by decide +kernel
theorem dX10_freezes_7 : decode cX10_freezes 7 = .ok (.getfield 62, 3) := by decide +kernel
theorem dX10_freezes_10 : decode cX10_freezes 10 = .ok (.iconst 1, 1) := by decide +kernel
theorem dX10_freezes_11 : decode cX10_freezes 11 = .ok (.iaload, 1) := by decide +kernel
theorem dX10_freezes_12 : decode cX10_freezes 12 = .ok (.if_icmp .ne 22, 3) := by decide +kernel
theorem dX10_freezes_15 : decode cX10_freezes 15 = .ok (.iload_n 1, 1) := by decide +kernel
theorem dX10_freezes_16 : decode cX10_freezes 16 = .ok (.ineg, 1) := by decide +kernel
theorem dX10_freezes_17 : decode cX10_freezes 17 = .ok (.iload_n 2, 1) := by decide +kernel
theorem dX10_freezes_18 : decode cX10_freezes 18 = .ok (.isub, 1) := by decide +kernel
theorem dX10_freezes_19 : decode cX10_freezes 19 = .ok (.iload_n 3, 1) := by decide +kernel
theorem dX10_freezes_20 : decode cX10_freezes 20 = .ok (.iconst 3, 1) := by decide +kernel
theorem dX10_freezes_21 : decode cX10_freezes 21 = .ok (.imul, 1) := by decide +kernel
theorem dX10_freezes_22 : decode cX10_freezes 22 = .ok (.isub, 1) := by decide +kernel
theorem dX10_freezes_23 : decode cX10_freezes 23 = .ok (.iload 4, 2) := by decide +kernel
theorem dX10_freezes_25 : decode cX10_freezes 25 = .ok (.isub, 1) := by decide +kernel
theorem dX10_freezes_26 : decode cX10_freezes 26 = .ok (.bipush (-20), 2) := by decide +kernel
theorem dX10_freezes_28 : decode cX10_freezes 28 = .ok (.bipush 20, 2) := by decide +kernel
theorem dX10_freezes_30 : decode cX10_freezes 30 = .ok (.invokestatic 343, 3) := by decide +kernel
theorem dX10_freezes_33 : decode cX10_freezes 33 = .ok (.ireturn, 1) := by decide +kernel
theorem dX10_freezes_34 : decode cX10_freezes 34 = .ok (.aload_n 0, 1) := by decide +kernel
theorem dX10_freezes_35 : decode cX10_freezes 35 = .ok (.getfield 105, 3) := by decide +kernel
theorem dX10_freezes_38 : decode cX10_freezes 38 = .ok (.iconst 1, 1) := by decide +kernel
theorem dX10_freezes_39 : decode cX10_freezes 39 = .ok (.iload_n 1, 1) := by decide +kernel
theorem dX10_freezes_40 : decode cX10_freezes 40 = .ok (.iastore, 1) := by decide +kernel
theorem dX10_freezes_41 : decode cX10_freezes 41 = .ok (.aload_n 0, 1) := by decide +kernel
theorem dX10_freezes_42 : decode cX10_freezes 42 = .ok (.getfield 105, 3) := by decide +kernel
theorem dX10_freezes_45 : decode cX10_freezes 45 = .ok (.iconst 2, 1) := by decide +kernel
theorem dX10_freezes_46 : decode cX10_freezes 46 = .ok (.iload_n 2, 1) := by decide +kernel
theorem dX10_freezes_47 : decode cX10_freezes 47 = .ok (.iastore, 1) := by decide +kernel
theorem dX10_freezes_48 : decode cX10_freezes 48 = .ok (.aload_n 0, 1) := by decide +kernel
theorem dX10_freezes_49 : decode cX10_freezes 49 = .ok (.getfield 105, 3) := by decide +kernel
theorem dX10_freezes_52 : decode cX10_freezes 52 = .ok (.iconst 3, 1) := by decide +kernel
theorem dX10_freezes_53 : decode cX10_freezes 53 = .ok (.iload_n 3, 1) := by decide +kernel
theorem dX10_freezes_54 : decode cX10_freezes 54 = .ok (.iastore, 1) := by decide +kernel
theorem dX10_freezes_55 : decode cX10_freezes 55 = .ok (.aload_n 0, 1) := by decide +kernel
theorem dX10_freezes_56 : decode cX10_freezes 56 = .ok (.getfield 105, 3) := by decide +kernel
theorem dX10_freezes_59 : decode cX10_freezes 59 = .ok (.iconst 4, 1) := by decide +kernel
theorem dX10_freezes_60 : decode cX10_freezes 60 = .ok (.iload 4, 2) := by decide +kernel
theorem dX10_freezes_62 : decode cX10_freezes 62 = .ok (.iastore, 1) := by decide +kernel
theorem dX10_freezes_63 : decode cX10_freezes 63 = .ok (.aload_n 0, 1) := by decide +kernel
theorem dX10_freezes_64 : decode cX10_freezes 64 = .ok (.getfield 105, 3) := by decide +kernel
theorem dX10_freezes_67 : decode cX10_freezes 67 = .ok (.iconst 5, 1) := by decide +kernel
theorem dX10_freezes_68 : decode cX10_freezes 68 = .ok (.iload 5, 2) := by decide +kernel
theorem dX10_freezes_70 : decode cX10_freezes 70 = .ok (.iastore, 1) := by decide +kernel
theorem dX10_freezes_71 : decode cX10_freezes 71 = .ok (.aload_n 0, 1) := by decide +kernel
theorem dX10_freezes_72 : decode cX10_freezes 72 = .ok (.getfield 105, 3) := by decide +kernel
theorem dX10_freezes_75 : decode cX10_freezes 75 = .ok (.bipush 6, 2) := by decide +kernel
theorem dX10_freezes_77 : decode cX10_freezes 77 = .ok (.iload 6, 2) := by decide +kernel
theorem dX10_freezes_79 : decode cX10_freezes 79 = .ok (.iastore, 1) := by decide +kernel
theorem dX10_freezes_80 : decode cX10_freezes 80 = .ok (.aload_n 0, 1) := by decide +kernel
theorem dX10_freezes_81 : decode cX10_freezes 81 = .ok (.iconst 1, 1) := by decide +kernel
theorem dX10_freezes_82 : decode cX10_freezes 82 = .ok (.invokevirtual 340, 3) := by decide +kernel
theorem dX10_freezes_85 : decode cX10_freezes 85 = .ok (.bipush (-20), 2) := by decide +kernel
theorem dX10_freezes_87 : decode cX10_freezes 87 = .ok (.bipush 20, 2) := by decide +kernel
theorem dX10_freezes_89 : decode cX10_freezes 89 = .ok (.invokestatic 343, 3) := by decide +kernel
theorem dX10_freezes_92 : decode cX10_freezes 92 = .ok (.ireturn, 1) := by decide +kernel
theorem dX10_turns_0 : decode cX10_turns 0 = .ok (.iload_n 3, 1) := by decide +kernel
theorem dX10_turns_1 : decode cX10_turns 1 = .ok (.ifCond .le 16, 3) := by decide +kernel
theorem dX10_turns_4 : decode cX10_turns 4 = .ok (.iload_n 3, 1) := by decide +kernel
theorem dX10_turns_5 : decode cX10_turns 5 = .ok (.aload_n 0, 1) := by decide +kernel
theorem dX10_turns_6 : decode cX10_turns 6 = .ok (.getfield 108, 3) := by decide +kernel
theorem dX10_turns_9 : decode cX10_turns 9 = .ok (.iload_n 2, 1) := by decide +kernel
theorem dX10_turns_10 : decode cX10_turns 10 = .ok (.iaload, 1) := by decide +kernel
theorem dX10_turns_11 : decode cX10_turns 11 = .ok (.invokestatic 350, 3) := by decide +kernel
theorem dX10_turns_14 : decode cX10_turns 14 = .ok (.goto 15, 3) := by decide +kernel
theorem dX10_turns_17 : decode cX10_turns 17 = .ok (.iload_n 3, 1) := by decide +kernel
theorem dX10_turns_18 : decode cX10_turns 18 = .ok (.ineg, 1) := by decide +kernel
theorem dX10_turns_19 : decode cX10_turns 19 = .ok (.aload_n 0, 1) := by decide +kernel
theorem dX10_turns_20 : decode cX10_turns 20 = .ok (.getfield 108, 3) := by decide +kernel
theorem dX10_turns_23 : decode cX10_turns 23 = .ok (.iload_n 1, 1) := by decide +kernel
theorem dX10_turns_24 : decode cX10_turns 24 = .ok (.iaload, 1) := by decide +kernel
theorem dX10_turns_25 : decode cX10_turns 25 = .ok (.invokestatic 350, 3) := by decide +kernel
theorem dX10_turns_28 : decode cX10_turns 28 = .ok (.ineg, 1) := by decide +kernel
theorem dX10_turns_29 : decode cX10_turns 29 = .ok (.istore 4, 2) := by decide +kernel
theorem dX10_turns_31 : decode cX10_turns 31 = .ok (.aload_n 0, 1) := by decide +kernel
theorem dX10_turns_32 : decode cX10_turns 32 = .ok (.getfield 108, 3) := by decide +kernel
theorem dX10_turns_35 : decode cX10_turns 35 = .ok (.iload_n 1, 1) := by decide +kernel
theorem dX10_turns_36 : decode cX10_turns 36 = .ok (.dup2, 1) := by decide +kernel
theorem dX10_turns_37 : decode cX10_turns 37 = .ok (.iaload, 1) := by decide +kernel
theorem dX10_turns_38 : decode cX10_turns 38 = .ok (.iload 4, 2) := by decide +kernel
theorem dX10_turns_40 : decode cX10_turns 40 = .ok (.iadd, 1) := by decide +kernel
theorem dX10_turns_41 : decode cX10_turns 41 = .ok (.iastore, 1) := by decide +kernel
theorem dX10_turns_42 : decode cX10_turns 42 = .ok (.aload_n 0, 1) := by decide +kernel
theorem dX10_turns_43 : decode cX10_turns 43 = .ok (.getfield 108, 3) := by decide +kernel
theorem dX10_turns_46 : decode cX10_turns 46 = .ok (.iload_n 2, 1) := by decide +kernel
theorem dX10_turns_47 : decode cX10_turns 47 = .ok (.dup2, 1) := by decide +kernel
theorem dX10_turns_48 : decode cX10_turns 48 = .ok (.iaload, 1) := by decide +kernel
theorem dX10_turns_49 : decode cX10_turns 49 = .ok (.iload 4, 2) := by decide +kernel
theorem dX10_turns_51 : decode cX10_turns 51 = .ok (.isub, 1) := by decide +kernel
theorem dX10_turns_52 : decode cX10_turns 52 = .ok (.iastore, 1) := by decide +kernel
theorem dX10_turns_53 : decode cX10_turns 53 = .ok (.return_, 1) := by decide +kernel
theorem dX10_inAndBy_0 : decode cX10_inAndBy 0 = .ok (.aload_n 0, 1) := by decide +kernel
theorem dX10_inAndBy_1 : decode cX10_inAndBy 1 = .ok (.getfield 108, 3) := by decide +kernel
theorem dX10_inAndBy_4 : decode cX10_inAndBy 4 = .ok (.bipush 80, 2) := by decide +kernel
theorem dX10_inAndBy_6 : decode cX10_inAndBy 6 = .ok (.iaload, 1) := by decide +kernel
theorem dX10_inAndBy_7 : decode cX10_inAndBy 7 = .ok (.istore_n 2, 1) := by decide +kernel
theorem dX10_inAndBy_8 : decode cX10_inAndBy 8 = .ok (.aload_n 0, 1) := by decide +kernel
theorem dX10_inAndBy_9 : decode cX10_inAndBy 9 = .ok (.aload_n 0, 1) := by decide +kernel
theorem dX10_inAndBy_10 : decode cX10_inAndBy 10 = .ok (.getfield 38, 3) := by decide +kernel
theorem dX10_inAndBy_13 : decode cX10_inAndBy 13 = .ok (.iload_n 1, 1) := by decide +kernel
theorem dX10_inAndBy_14 : decode cX10_inAndBy 14 = .ok (.iaload, 1) := by decide +kernel
theorem dX10_inAndBy_15 : decode cX10_inAndBy 15 = .ok (.invokevirtual 330, 3) := by decide +kernel
theorem dX10_inAndBy_18 : decode cX10_inAndBy 18 = .ok (.invokestatic 364, 3) := by decide +kernel
theorem dX10_inAndBy_21 : decode cX10_inAndBy 21 = .ok (.aload_n 0, 1) := by decide +kernel
theorem dX10_inAndBy_22 : decode cX10_inAndBy 22 = .ok (.aload_n 0, 1) := by decide +kernel
theorem dX10_inAndBy_23 : decode cX10_inAndBy 23 = .ok (.getfield 41, 3) := by decide +kernel
theorem dX10_inAndBy_26 : decode cX10_inAndBy 26 = .ok (.iload_n 1, 1) := by decide +kernel
theorem dX10_inAndBy_27 : decode cX10_inAndBy 27 = .ok (.iaload, 1) := by decide +kernel
theorem dX10_inAndBy_28 : decode cX10_inAndBy 28 = .ok (.invokevirtual 330, 3) := by decide +kernel
theorem dX10_inAndBy_31 : decode cX10_inAndBy 31 = .ok (.invokestatic 364, 3) := by decide +kernel
theorem dX10_inAndBy_34 : decode cX10_inAndBy 34 = .ok (.iadd, 1) := by decide +kernel
theorem dX10_inAndBy_35 : decode cX10_inAndBy 35 = .ok (.aload_n 0, 1) := by decide +kernel
theorem dX10_inAndBy_36 : decode cX10_inAndBy 36 = .ok (.aload_n 0, 1) := by decide +kernel
theorem dX10_inAndBy_37 : decode cX10_inAndBy 37 = .ok (.getfield 38, 3) := by decide +kernel
theorem dX10_inAndBy_40 : decode cX10_inAndBy 40 = .ok (.iload_n 1, 1) := by decide +kernel
theorem dX10_inAndBy_41 : decode cX10_inAndBy 41 = .ok (.iaload, 1) := by decide +kernel
theorem dX10_inAndBy_42 : decode cX10_inAndBy 42 = .ok (.iload_n 2, 1) := by decide +kernel
theorem dX10_inAndBy_43 : decode cX10_inAndBy 43 = .ok (.invokevirtual 333, 3) := by decide +kernel
theorem dX10_inAndBy_46 : decode cX10_inAndBy 46 = .ok (.iadd, 1) := by decide +kernel
theorem dX10_inAndBy_47 : decode cX10_inAndBy 47 = .ok (.aload_n 0, 1) := by decide +kernel
theorem dX10_inAndBy_48 : decode cX10_inAndBy 48 = .ok (.aload_n 0, 1) := by decide +kernel
theorem dX10_inAndBy_49 : decode cX10_inAndBy 49 = .ok (.getfield 41, 3) := by decide +kernel
theorem dX10_inAndBy_52 : decode cX10_inAndBy 52 = .ok (.iload_n 1, 1) := by decide +kernel
theorem dX10_inAndBy_53 : decode cX10_inAndBy 53 = .ok (.iaload, 1) := by decide +kernel
theorem dX10_inAndBy_54 : decode cX10_inAndBy 54 = .ok (.iload_n 2, 1) := by decide +kernel
theorem dX10_inAndBy_55 : decode cX10_inAndBy 55 = .ok (.invokevirtual 333, 3) := by decide +kernel
theorem dX10_inAndBy_58 : decode cX10_inAndBy 58 = .ok (.iadd, 1) := by decide +kernel
theorem dX10_inAndBy_59 : decode cX10_inAndBy 59 = .ok (.ireturn, 1) := by decide +kernel
theorem dX10_frosts_0 : decode cX10_frosts 0 = .ok (.aload_n 0, 1) := by decide +kernel
theorem dX10_frosts_1 : decode cX10_frosts 1 = .ok (.aload_n 0, 1) := by decide +kernel
theorem dX10_frosts_2 : decode cX10_frosts 2 = .ok (.getfield 108, 3) := by decide +kernel
theorem dX10_frosts_5 : decode cX10_frosts 5 = .ok (.bipush 80, 2) := by decide +kernel
theorem dX10_frosts_7 : decode cX10_frosts 7 = .ok (.iaload, 1) := by decide +kernel
theorem dX10_frosts_8 : decode cX10_frosts 8 = .ok (.iload_n 1, 1) := by decide +kernel
theorem dX10_frosts_9 : decode cX10_frosts 9 = .ok (.invokevirtual 347, 3) := by decide +kernel
theorem dX10_frosts_12 : decode cX10_frosts 12 = .ok (.istore_n 2, 1) := by decide +kernel
theorem dX10_frosts_13 : decode cX10_frosts 13 = .ok (.iconst 0, 1) := by decide +kernel
theorem dX10_frosts_14 : decode cX10_frosts 14 = .ok (.istore_n 3, 1) := by decide +kernel
theorem dX10_frosts_15 : decode cX10_frosts 15 = .ok (.iload_n 3, 1) := by decide +kernel
theorem dX10_frosts_16 : decode cX10_frosts 16 = .ok (.aload_n 0, 1) := by decide +kernel
theorem dX10_frosts_17 : decode cX10_frosts 17 = .ok (.getfield 16, 3) := by decide +kernel
theorem dX10_frosts_20 : decode cX10_frosts 20 = .ok (.iconst 0, 1) := by decide +kernel
theorem dX10_frosts_21 : decode cX10_frosts 21 = .ok (.iaload, 1) := by decide +kernel
theorem dX10_frosts_22 : decode cX10_frosts 22 = .ok (.if_icmp .ge 166, 3) := by decide +kernel
theorem dX10_frosts_25 : decode cX10_frosts 25 = .ok (.aload_n 0, 1) := by decide +kernel
theorem dX10_frosts_26 : decode cX10_frosts 26 = .ok (.getfield 108, 3) := by decide +kernel
theorem dX10_frosts_29 : decode cX10_frosts 29 = .ok (.bipush 60, 2) := by decide +kernel
theorem dX10_frosts_31 : decode cX10_frosts 31 = .ok (.aload_n 0, 1) := by decide +kernel
theorem dX10_frosts_32 : decode cX10_frosts 32 = .ok (.getfield 38, 3) := by decide +kernel
theorem dX10_frosts_35 : decode cX10_frosts 35 = .ok (.iload_n 3, 1) := by decide +kernel
theorem dX10_frosts_36 : decode cX10_frosts 36 = .ok (.iaload, 1) := by decide +kernel
theorem dX10_frosts_37 : decode cX10_frosts 37 = .ok (.iadd, 1) := by decide +kernel
theorem dX10_frosts_38 : decode cX10_frosts 38 = .ok (.iaload, 1) := by decide +kernel
theorem dX10_frosts_39 : decode cX10_frosts 39 = .ok (.aload_n 0, 1) := by decide +kernel
theorem dX10_frosts_40 : decode cX10_frosts 40 = .ok (.getfield 41, 3) := by decide +kernel
theorem dX10_frosts_43 : decode cX10_frosts 43 = .ok (.iload_n 3, 1) := by decide +kernel
theorem dX10_frosts_44 : decode cX10_frosts 44 = .ok (.iaload, 1) := by decide +kernel
theorem dX10_frosts_45 : decode cX10_frosts 45 = .ok (.ifCond .ge 7, 3) := by decide +kernel
theorem dX10_frosts_48 : decode cX10_frosts 48 = .ok (.iconst 0, 1) := by decide +kernel
theorem dX10_frosts_49 : decode cX10_frosts 49 = .ok (.goto 17, 3) := by decide +kernel
theorem dX10_frosts_52 : decode cX10_frosts 52 = .ok (.aload_n 0, 1) := by decide +kernel
theorem dX10_frosts_53 : decode cX10_frosts 53 = .ok (.getfield 108, 3) := by decide +kernel
theorem dX10_frosts_56 : decode cX10_frosts 56 = .ok (.bipush 60, 2) := by decide +kernel
theorem dX10_frosts_58 : decode cX10_frosts 58 = .ok (.aload_n 0, 1) := by decide +kernel
theorem dX10_frosts_59 : decode cX10_frosts 59 = .ok (.getfield 41, 3) := by decide +kernel
theorem dX10_frosts_62 : decode cX10_frosts 62 = .ok (.iload_n 3, 1) := by decide +kernel
theorem dX10_frosts_63 : decode cX10_frosts 63 = .ok (.iaload, 1) := by decide +kernel
theorem dX10_frosts_64 : decode cX10_frosts 64 = .ok (.iadd, 1) := by decide +kernel
theorem dX10_frosts_65 : decode cX10_frosts 65 = .ok (.iaload, 1) := by decide +kernel
theorem dX10_frosts_66 : decode cX10_frosts 66 = .ok (.iadd, 1) := by decide +kernel
theorem dX10_frosts_67 : decode cX10_frosts 67 = .ok (.istore 4, 2) := by decide +kernel
theorem dX10_frosts_69 : decode cX10_frosts 69 = .ok (.aload_n 0, 1) := by decide +kernel
theorem dX10_frosts_70 : decode cX10_frosts 70 = .ok (.iload_n 3, 1) := by decide +kernel
theorem dX10_frosts_71 : decode cX10_frosts 71 = .ok (.invokevirtual 367, 3) := by decide +kernel
theorem dX10_frosts_74 : decode cX10_frosts 74 = .ok (.istore 5, 2) := by decide +kernel
theorem dX10_frosts_76 : decode cX10_frosts 76 = .ok (.aload_n 0, 1) := by decide +kernel
theorem dX10_frosts_77 : decode cX10_frosts 77 = .ok (.iload_n 3, 1) := by decide +kernel
theorem dX10_frosts_78 : decode cX10_frosts 78 = .ok (.bipush 10, 2) := by decide +kernel
theorem dX10_frosts_80 : decode cX10_frosts 80 = .ok (.iload_n 3, 1) := by decide +kernel
theorem dX10_frosts_81 : decode cX10_frosts 81 = .ok (.iadd, 1) := by decide +kernel
theorem dX10_frosts_82 : decode cX10_frosts 82 = .ok (.aload_n 0, 1) := by decide +kernel
theorem dX10_frosts_83 : decode cX10_frosts 83 = .ok (.iload_n 2, 1) := by decide +kernel
theorem dX10_frosts_84 : decode cX10_frosts 84 = .ok (.iload 4, 2) := by decide +kernel
theorem dX10_frosts_86 : decode cX10_frosts 86 = .ok (.aload_n 0, 1) := by decide +kernel
theorem dX10_frosts_87 : decode cX10_frosts 87 = .ok (.getfield 108, 3) := by decide +kernel
theorem dX10_frosts_90 : decode cX10_frosts 90 = .ok (.bipush 20, 2) := by decide +kernel
theorem dX10_frosts_92 : decode cX10_frosts 92 = .ok (.iload_n 3, 1) := by decide +kernel
theorem dX10_frosts_93 : decode cX10_frosts 93 = .ok (.iadd, 1) := by decide +kernel
theorem dX10_frosts_94 : decode cX10_frosts 94 = .ok (.iaload, 1) := by decide +kernel
theorem dX10_frosts_95 : decode cX10_frosts 95 = .ok (.iload 5, 2) := by decide +kernel
theorem dX10_frosts_97 : decode cX10_frosts 97 = .ok (.aload_n 0, 1) := by decide +kernel
theorem dX10_frosts_98 : decode cX10_frosts 98 = .ok (.getfield 108, 3) := by decide +kernel
theorem dX10_frosts_101 : decode cX10_frosts 101 = .ok (.iload_n 3, 1) := by decide +kernel
theorem dX10_frosts_102 : decode cX10_frosts 102 = .ok (.iaload, 1) := by decide +kernel
theorem dX10_frosts_103 : decode cX10_frosts 103 = .ok (.aload_n 0, 1) := by decide +kernel
theorem dX10_frosts_104 : decode cX10_frosts 104 = .ok (.getfield 108, 3) := by decide +kernel
theorem dX10_frosts_107 : decode cX10_frosts 107 = .ok (.bipush 10, 2) := by decide +kernel
theorem dX10_frosts_109 : decode cX10_frosts 109 = .ok (.iload_n 3, 1) := by decide +kernel
theorem dX10_frosts_110 : decode cX10_frosts 110 = .ok (.iadd, 1) := by decide +kernel
theorem dX10_frosts_111 : decode cX10_frosts 111 = .ok (.iaload, 1) := by decide +kernel
theorem dX10_frosts_112 : decode cX10_frosts 112 = .ok (.invokevirtual 370, 3) := by decide +kernel
theorem dX10_frosts_115 : decode cX10_frosts 115 = .ok (.invokevirtual 374, 3) := by decide +kernel
theorem dX10_frosts_118 : decode cX10_frosts 118 = .ok (.aload_n 0, 1) := by decide +kernel
theorem dX10_frosts_119 : decode cX10_frosts 119 = .ok (.bipush 30, 2) := by decide +kernel
theorem dX10_frosts_121 : decode cX10_frosts 121 = .ok (.iload_n 3, 1) := by decide +kernel
theorem dX10_frosts_122 : decode cX10_frosts 122 = .ok (.iadd, 1) := by decide +kernel
theorem dX10_frosts_123 : decode cX10_frosts 123 = .ok (.bipush 40, 2) := by decide +kernel
theorem dX10_frosts_125 : decode cX10_frosts 125 = .ok (.iload_n 3, 1) := by decide +kernel
theorem dX10_frosts_126 : decode cX10_frosts 126 = .ok (.iadd, 1) := by decide +kernel
theorem dX10_frosts_127 : decode cX10_frosts 127 = .ok (.aload_n 0, 1) := by decide +kernel
theorem dX10_frosts_128 : decode cX10_frosts 128 = .ok (.iload_n 2, 1) := by decide +kernel
theorem dX10_frosts_129 : decode cX10_frosts 129 = .ok (.iload 4, 2) := by decide +kernel
theorem dX10_frosts_131 : decode cX10_frosts 131 = .ok (.iconst 0, 1) := by decide +kernel
theorem dX10_frosts_132 : decode cX10_frosts 132 = .ok (.iload 5, 2) := by decide +kernel
theorem dX10_frosts_134 : decode cX10_frosts 134 = .ok (.aload_n 0, 1) := by decide +kernel
theorem dX10_frosts_135 : decode cX10_frosts 135 = .ok (.getfield 108, 3) := by decide +kernel
theorem dX10_frosts_138 : decode cX10_frosts 138 = .ok (.bipush 30, 2) := by decide +kernel
theorem dX10_frosts_140 : decode cX10_frosts 140 = .ok (.iload_n 3, 1) := by decide +kernel
theorem dX10_frosts_141 : decode cX10_frosts 141 = .ok (.iadd, 1) := by decide +kernel
theorem dX10_frosts_142 : decode cX10_frosts 142 = .ok (.iaload, 1) := by decide +kernel
theorem dX10_frosts_143 : decode cX10_frosts 143 = .ok (.aload_n 0, 1) := by decide +kernel
theorem dX10_frosts_144 : decode cX10_frosts 144 = .ok (.getfield 108, 3) := by decide +kernel
theorem dX10_frosts_147 : decode cX10_frosts 147 = .ok (.bipush 40, 2) := by decide +kernel
theorem dX10_frosts_149 : decode cX10_frosts 149 = .ok (.iload_n 3, 1) := by decide +kernel
theorem dX10_frosts_150 : decode cX10_frosts 150 = .ok (.iadd, 1) := by decide +kernel
theorem dX10_frosts_151 : decode cX10_frosts 151 = .ok (.iaload, 1) := by decide +kernel
theorem dX10_frosts_152 : decode cX10_frosts 152 = .ok (.invokevirtual 370, 3) := by decide +kernel
theorem dX10_frosts_155 : decode cX10_frosts 155 = .ok (.invokevirtual 374, 3) := by decide +kernel
theorem dX10_frosts_158 : decode cX10_frosts 158 = .ok (.aload_n 0, 1) := by decide +kernel
theorem dX10_frosts_159 : decode cX10_frosts 159 = .ok (.getfield 108, 3) := by decide +kernel
theorem dX10_frosts_162 : decode cX10_frosts 162 = .ok (.bipush 20, 2) := by decide +kernel
theorem dX10_frosts_164 : decode cX10_frosts 164 = .ok (.iload_n 3, 1) := by decide +kernel
theorem dX10_frosts_165 : decode cX10_frosts 165 = .ok (.iadd, 1) := by decide +kernel
theorem dX10_frosts_166 : decode cX10_frosts 166 = .ok (.iconst 0, 1) := by decide +kernel
theorem dX10_frosts_167 : decode cX10_frosts 167 = .ok (.aload_n 0, 1) := by decide +kernel
theorem dX10_frosts_168 : decode cX10_frosts 168 = .ok (.getfield 108, 3) := by decide +kernel
theorem dX10_frosts_171 : decode cX10_frosts 171 = .ok (.bipush 20, 2) := by decide +kernel
theorem dX10_frosts_173 : decode cX10_frosts 173 = .ok (.iload_n 3, 1) := by decide +kernel
theorem dX10_frosts_174 : decode cX10_frosts 174 = .ok (.iadd, 1) := by decide +kernel
theorem dX10_frosts_175 : decode cX10_frosts 175 = .ok (.iaload, 1) := by decide +kernel
theorem dX10_frosts_176 : decode cX10_frosts 176 = .ok (.iconst 1, 1) := by decide +kernel
theorem dX10_frosts_177 : decode cX10_frosts 177 = .ok (.isub, 1) := by decide +kernel
theorem dX10_frosts_178 : decode cX10_frosts 178 = .ok (.invokestatic 378, 3) := by decide +kernel
theorem dX10_frosts_181 : decode cX10_frosts 181 = .ok (.iastore, 1) := by decide +kernel
theorem dX10_frosts_182 : decode cX10_frosts 182 = .ok (.iinc 3 1, 3) := by decide +kernel
theorem dX10_frosts_185 : decode cX10_frosts 185 = .ok (.goto (-170), 3) := by decide +kernel
theorem dX10_frosts_188 : decode cX10_frosts 188 = .ok (.return_, 1) := by decide +kernel
theorem dX10_walks_0 : decode cX10_walks 0 = .ok (.aload_n 0, 1) := by decide +kernel
theorem dX10_walks_1 : decode cX10_walks 1 = .ok (.getfield 108, 3) := by decide +kernel
theorem dX10_walks_4 : decode cX10_walks 4 = .ok (.bipush 68, 2) := by decide +kernel
theorem dX10_walks_6 : decode cX10_walks 6 = .ok (.iload_n 1, 1) := by decide +kernel
theorem dX10_walks_7 : decode cX10_walks 7 = .ok (.iadd, 1) := by decide +kernel
theorem dX10_walks_8 : decode cX10_walks 8 = .ok (.iaload, 1) := by decide +kernel
theorem dX10_walks_9 : decode cX10_walks 9 = .ok (.istore_n 2, 1) := by decide +kernel
theorem dX10_walks_10 : decode cX10_walks 10 = .ok (.aload_n 0, 1) := by decide +kernel
theorem dX10_walks_11 : decode cX10_walks 11 = .ok (.getfield 108, 3) := by decide +kernel
theorem dX10_walks_14 : decode cX10_walks 14 = .ok (.bipush 80, 2) := by decide +kernel
theorem dX10_walks_16 : decode cX10_walks 16 = .ok (.iaload, 1) := by decide +kernel
theorem dX10_walks_17 : decode cX10_walks 17 = .ok (.istore_n 3, 1) := by decide +kernel
theorem dX10_walks_18 : decode cX10_walks 18 = .ok (.iload_n 2, 1) := by decide +kernel
theorem dX10_walks_19 : decode cX10_walks 19 = .ok (.ifCond .lt 25, 3) := by decide +kernel
theorem dX10_walks_22 : decode cX10_walks 22 = .ok (.iload_n 3, 1) := by decide +kernel
theorem dX10_walks_23 : decode cX10_walks 23 = .ok (.bipush 24, 2) := by decide +kernel
theorem dX10_walks_25 : decode cX10_walks 25 = .ok (.idiv, 1) := by decide +kernel
theorem dX10_walks_26 : decode cX10_walks 26 = .ok (.aload_n 0, 1) := by decide +kernel
theorem dX10_walks_27 : decode cX10_walks 27 = .ok (.getfield 53, 3) := by decide +kernel
theorem dX10_walks_30 : decode cX10_walks 30 = .ok (.iload_n 1, 1) := by decide +kernel
theorem dX10_walks_31 : decode cX10_walks 31 = .ok (.iaload, 1) := by decide +kernel
theorem dX10_walks_32 : decode cX10_walks 32 = .ok (.if_icmp .lt 12, 3) := by decide +kernel
theorem dX10_walks_35 : decode cX10_walks 35 = .ok (.aload_n 0, 1) := by decide +kernel
theorem dX10_walks_36 : decode cX10_walks 36 = .ok (.iload_n 2, 1) := by decide +kernel
theorem dX10_walks_37 : decode cX10_walks 37 = .ok (.iload_n 3, 1) := by decide +kernel
theorem dX10_walks_38 : decode cX10_walks 38 = .ok (.invokevirtual 381, 3) := by decide +kernel
theorem dX10_walks_41 : decode cX10_walks 41 = .ok (.ifCond .eq 4, 3) := by decide +kernel
theorem dX10_walks_44 : decode cX10_walks 44 = .ok (.return_, 1) := by decide +kernel
theorem dX10_walks_45 : decode cX10_walks 45 = .ok (.iconst (-1), 1) := by decide +kernel
theorem dX10_walks_46 : decode cX10_walks 46 = .ok (.istore 4, 2) := by decide +kernel
theorem dX10_walks_48 : decode cX10_walks 48 = .ok (.iconst 0, 1) := by decide +kernel
theorem dX10_walks_49 : decode cX10_walks 49 = .ok (.istore 5, 2) := by decide +kernel
theorem dX10_walks_51 : decode cX10_walks 51 = .ok (.iload 5, 2) := by decide +kernel
theorem dX10_walks_53 : decode cX10_walks 53 = .ok (.aload_n 0, 1) := by decide +kernel
theorem dX10_walks_54 : decode cX10_walks 54 = .ok (.getfield 16, 3) := by decide +kernel
theorem dX10_walks_57 : decode cX10_walks 57 = .ok (.iconst 0, 1) := by decide +kernel
theorem dX10_walks_58 : decode cX10_walks 58 = .ok (.iaload, 1) := by decide +kernel
theorem dX10_walks_59 : decode cX10_walks 59 = .ok (.if_icmp .ge 123, 3) := by decide +kernel
theorem dX10_walks_62 : decode cX10_walks 62 = .ok (.aload_n 0, 1) := by decide +kernel
theorem dX10_walks_63 : decode cX10_walks 63 = .ok (.iload 5, 2) := by decide +kernel
theorem dX10_walks_65 : decode cX10_walks 65 = .ok (.iload_n 2, 1) := by decide +kernel
theorem dX10_walks_66 : decode cX10_walks 66 = .ok (.invokevirtual 361, 3) := by decide +kernel
theorem dX10_walks_69 : decode cX10_walks 69 = .ok (.istore 6, 2) := by decide +kernel
theorem dX10_walks_71 : decode cX10_walks 71 = .ok (.iload 6, 2) := by decide +kernel
theorem dX10_walks_73 : decode cX10_walks 73 = .ok (.bipush (-2), 2) := by decide +kernel
theorem dX10_walks_75 : decode cX10_walks 75 = .ok (.if_icmp .eq 101, 3) := by decide +kernel
theorem dX10_walks_78 : decode cX10_walks 78 = .ok (.aload_n 0, 1) := by decide +kernel
theorem dX10_walks_79 : decode cX10_walks 79 = .ok (.getfield 108, 3) := by decide +kernel
theorem dX10_walks_82 : decode cX10_walks 82 = .ok (.iload 5, 2) := by decide +kernel
theorem dX10_walks_84 : decode cX10_walks 84 = .ok (.iaload, 1) := by decide +kernel
theorem dX10_walks_85 : decode cX10_walks 85 = .ok (.ifCond .gt 91, 3) := by decide +kernel
theorem dX10_walks_88 : decode cX10_walks 88 = .ok (.aload_n 0, 1) := by decide +kernel
theorem dX10_walks_89 : decode cX10_walks 89 = .ok (.iload 6, 2) := by decide +kernel
theorem dX10_walks_91 : decode cX10_walks 91 = .ok (.iload_n 3, 1) := by decide +kernel
theorem dX10_walks_92 : decode cX10_walks 92 = .ok (.invokevirtual 381, 3) := by decide +kernel
theorem dX10_walks_95 : decode cX10_walks 95 = .ok (.ifCond .eq 6, 3) := by decide +kernel
theorem dX10_walks_98 : decode cX10_walks 98 = .ok (.goto 78, 3) := by decide +kernel
theorem dX10_walks_101 : decode cX10_walks 101 = .ok (.iload 6, 2) := by decide +kernel
theorem dX10_walks_103 : decode cX10_walks 103 = .ok (.ifCond .lt 29, 3) := by decide +kernel
theorem dX10_walks_106 : decode cX10_walks 106 = .ok (.aload_n 0, 1) := by decide +kernel
theorem dX10_walks_107 : decode cX10_walks 107 = .ok (.getfield 117, 3) := by decide +kernel
theorem dX10_walks_110 : decode cX10_walks 110 = .ok (.iload 6, 2) := by decide +kernel
theorem dX10_walks_112 : decode cX10_walks 112 = .ok (.iaload, 1) := by decide +kernel
theorem dX10_walks_113 : decode cX10_walks 113 = .ok (.ifCond .le 23, 3) := by decide +kernel
theorem dX10_walks_116 : decode cX10_walks 116 = .ok (.aload_n 0, 1) := by decide +kernel
theorem dX10_walks_117 : decode cX10_walks 117 = .ok (.getfield 117, 3) := by decide +kernel
theorem dX10_walks_120 : decode cX10_walks 120 = .ok (.iload 6, 2) := by decide +kernel
theorem dX10_walks_122 : decode cX10_walks 122 = .ok (.iaload, 1) := by decide +kernel
theorem dX10_walks_123 : decode cX10_walks 123 = .ok (.aload_n 0, 1) := by decide +kernel
theorem dX10_walks_124 : decode cX10_walks 124 = .ok (.getfield 117, 3) := by decide +kernel
theorem dX10_walks_127 : decode cX10_walks 127 = .ok (.iload_n 2, 1) := by decide +kernel
theorem dX10_walks_128 : decode cX10_walks 128 = .ok (.iaload, 1) := by decide +kernel
theorem dX10_walks_129 : decode cX10_walks 129 = .ok (.if_icmp .ge 7, 3) := by decide +kernel
theorem dX10_walks_132 : decode cX10_walks 132 = .ok (.iconst 1, 1) := by decide +kernel
theorem dX10_walks_133 : decode cX10_walks 133 = .ok (.goto 4, 3) := by decide +kernel
theorem dX10_walks_136 : decode cX10_walks 136 = .ok (.iconst 0, 1) := by decide +kernel
theorem dX10_walks_137 : decode cX10_walks 137 = .ok (.istore 7, 2) := by decide +kernel
theorem dX10_walks_139 : decode cX10_walks 139 = .ok (.iload 7, 2) := by decide +kernel
theorem dX10_walks_141 : decode cX10_walks 141 = .ok (.ifCond .eq 35, 3) := by decide +kernel
theorem dX10_walks_144 : decode cX10_walks 144 = .ok (.iload 4, 2) := by decide +kernel
theorem dX10_walks_146 : decode cX10_walks 146 = .ok (.ifCond .lt 26, 3) := by decide +kernel
theorem dX10_walks_149 : decode cX10_walks 149 = .ok (.aload_n 0, 1) := by decide +kernel
theorem dX10_walks_150 : decode cX10_walks 150 = .ok (.iload 6, 2) := by decide +kernel
theorem dX10_walks_152 : decode cX10_walks 152 = .ok (.invokevirtual 384, 3) := by decide +kernel
theorem dX10_walks_155 : decode cX10_walks 155 = .ok (.aload_n 0, 1) := by decide +kernel
theorem dX10_walks_156 : decode cX10_walks 156 = .ok (.aload_n 0, 1) := by decide +kernel
theorem dX10_walks_157 : decode cX10_walks 157 = .ok (.iload 4, 2) := by decide +kernel
theorem dX10_walks_159 : decode cX10_walks 159 = .ok (.iload_n 2, 1) := by decide +kernel
theorem dX10_walks_160 : decode cX10_walks 160 = .ok (.invokevirtual 361, 3) := by decide +kernel
theorem dX10_walks_163 : decode cX10_walks 163 = .ok (.invokevirtual 384, 3) := by decide +kernel
theorem dX10_walks_166 : decode cX10_walks 166 = .ok (.if_icmp .lt 6, 3) := by decide +kernel
theorem dX10_walks_169 : decode cX10_walks 169 = .ok (.goto 7, 3) := by decide +kernel
theorem dX10_walks_172 : decode cX10_walks 172 = .ok (.iload 5, 2) := by decide +kernel
theorem dX10_walks_174 : decode cX10_walks 174 = .ok (.istore 4, 2) := by decide +kernel
theorem dX10_walks_176 : decode cX10_walks 176 = .ok (.iinc 5 1, 3) := by decide +kernel
theorem dX10_walks_179 : decode cX10_walks 179 = .ok (.goto (-128), 3) := by decide +kernel
theorem dX10_walks_182 : decode cX10_walks 182 = .ok (.iload 4, 2) := by decide +kernel
theorem dX10_walks_184 : decode cX10_walks 184 = .ok (.ifCond .lt 19, 3) := by decide +kernel
theorem dX10_walks_187 : decode cX10_walks 187 = .ok (.aload_n 0, 1) := by decide +kernel
theorem dX10_walks_188 : decode cX10_walks 188 = .ok (.getfield 108, 3) := by decide +kernel
theorem dX10_walks_191 : decode cX10_walks 191 = .ok (.bipush 68, 2) := by decide +kernel
theorem dX10_walks_193 : decode cX10_walks 193 = .ok (.iload_n 1, 1) := by decide +kernel
theorem dX10_walks_194 : decode cX10_walks 194 = .ok (.iadd, 1) := by decide +kernel
theorem dX10_walks_195 : decode cX10_walks 195 = .ok (.aload_n 0, 1) := by decide +kernel
theorem dX10_walks_196 : decode cX10_walks 196 = .ok (.iload 4, 2) := by decide +kernel
theorem dX10_walks_198 : decode cX10_walks 198 = .ok (.iload_n 2, 1) := by decide +kernel
theorem dX10_walks_199 : decode cX10_walks 199 = .ok (.invokevirtual 361, 3) := by decide +kernel
theorem dX10_walks_202 : decode cX10_walks 202 = .ok (.iastore, 1) := by decide +kernel
theorem dX10_walks_203 : decode cX10_walks 203 = .ok (.return_, 1) := by decide +kernel
theorem dX10_passes_0 : decode cX10_passes 0 = .ok (.aload_n 0, 1) := by decide +kernel
theorem dX10_passes_1 : decode cX10_passes 1 = .ok (.iload_n 1, 1) := by decide +kernel
theorem dX10_passes_2 : decode cX10_passes 2 = .ok (.invokevirtual 387, 3) := by decide +kernel
theorem dX10_passes_5 : decode cX10_passes 5 = .ok (.iconst 0, 1) := by decide +kernel
theorem dX10_passes_6 : decode cX10_passes 6 = .ok (.istore_n 2, 1) := by decide +kernel
theorem dX10_passes_7 : decode cX10_passes 7 = .ok (.iload_n 2, 1) := by decide +kernel
theorem dX10_passes_8 : decode cX10_passes 8 = .ok (.aload_n 0, 1) := by decide +kernel
theorem dX10_passes_9 : decode cX10_passes 9 = .ok (.getfield 19, 3) := by decide +kernel
theorem dX10_passes_12 : decode cX10_passes 12 = .ok (.iconst 0, 1) := by decide +kernel
theorem dX10_passes_13 : decode cX10_passes 13 = .ok (.iaload, 1) := by decide +kernel
theorem dX10_passes_14 : decode cX10_passes 14 = .ok (.if_icmp .ge 14, 3) := by decide +kernel
theorem dX10_passes_17 : decode cX10_passes 17 = .ok (.aload_n 0, 1) := by decide +kernel
theorem dX10_passes_18 : decode cX10_passes 18 = .ok (.iload_n 2, 1) := by decide +kernel
theorem dX10_passes_19 : decode cX10_passes 19 = .ok (.invokevirtual 390, 3) := by decide +kernel
theorem dX10_passes_22 : decode cX10_passes 22 = .ok (.iinc 2 1, 3) := by decide +kernel
theorem dX10_passes_25 : decode cX10_passes 25 = .ok (.goto (-18), 3) := by decide +kernel
theorem dX10_passes_28 : decode cX10_passes 28 = .ok (.aload_n 0, 1) := by decide +kernel
theorem dX10_passes_29 : decode cX10_passes 29 = .ok (.getfield 108, 3) := by decide +kernel
theorem dX10_passes_32 : decode cX10_passes 32 = .ok (.bipush 80, 2) := by decide +kernel
theorem dX10_passes_34 : decode cX10_passes 34 = .ok (.dup2, 1) := by decide +kernel
theorem dX10_passes_35 : decode cX10_passes 35 = .ok (.iaload, 1) := by decide +kernel
theorem dX10_passes_36 : decode cX10_passes 36 = .ok (.iconst 1, 1) := by decide +kernel
theorem dX10_passes_37 : decode cX10_passes 37 = .ok (.iadd, 1) := by decide +kernel
theorem dX10_passes_38 : decode cX10_passes 38 = .ok (.iastore, 1) := by decide +kernel
theorem dX10_passes_39 : decode cX10_passes 39 = .ok (.return_, 1) := by decide +kernel
theorem dX10_hours_0 : decode cX10_hours 0 = .ok (.aload_n 0, 1) := by decide +kernel
theorem dX10_hours_1 : decode cX10_hours 1 = .ok (.iconst 0, 1) := by decide +kernel
theorem dX10_hours_2 : decode cX10_hours 2 = .ok (.putfield 135, 3) := by decide +kernel
theorem dX10_hours_5 : decode cX10_hours 5 = .ok (.iload_n 1, 1) := by decide +kernel
theorem dX10_hours_6 : decode cX10_hours 6 = .ok (.iconst 1, 1) := by decide +kernel
theorem dX10_hours_7 : decode cX10_hours 7 = .ok (.sipush 1000, 3) := by decide +kernel
theorem dX10_hours_10 : decode cX10_hours 10 = .ok (.invokestatic 263, 3) := by decide +kernel
theorem dX10_hours_13 : decode cX10_hours 13 = .ok (.ifCond .ne 5, 3) := by decide +kernel
theorem dX10_hours_16 : decode cX10_hours 16 = .ok (.iconst (-1), 1) := by decide +kernel
theorem dX10_hours_17 : decode cX10_hours 17 = .ok (.ireturn, 1) := by decide +kernel
theorem dX10_hours_18 : decode cX10_hours 18 = .ok (.iconst 0, 1) := by decide +kernel
theorem dX10_hours_19 : decode cX10_hours 19 = .ok (.istore_n 2, 1) := by decide +kernel
theorem dX10_hours_20 : decode cX10_hours 20 = .ok (.iload_n 2, 1) := by decide +kernel
theorem dX10_hours_21 : decode cX10_hours 21 = .ok (.iload_n 1, 1) := by decide +kernel
theorem dX10_hours_22 : decode cX10_hours 22 = .ok (.if_icmp .ge 14, 3) := by decide +kernel
theorem dX10_hours_25 : decode cX10_hours 25 = .ok (.aload_n 0, 1) := by decide +kernel
theorem dX10_hours_26 : decode cX10_hours 26 = .ok (.iconst 0, 1) := by decide +kernel
theorem dX10_hours_27 : decode cX10_hours 27 = .ok (.invokevirtual 393, 3) := by decide +kernel
theorem dX10_hours_30 : decode cX10_hours 30 = .ok (.iinc 2 1, 3) := by decide +kernel
theorem dX10_hours_33 : decode cX10_hours 33 = .ok (.goto (-13), 3) := by decide +kernel
theorem dX10_hours_36 : decode cX10_hours 36 = .ok (.aload_n 0, 1) := by decide +kernel
theorem dX10_hours_37 : decode cX10_hours 37 = .ok (.getfield 108, 3) := by decide +kernel
theorem dX10_hours_40 : decode cX10_hours 40 = .ok (.bipush 80, 2) := by decide +kernel
theorem dX10_hours_42 : decode cX10_hours 42 = .ok (.iaload, 1) := by decide +kernel
theorem dX10_hours_43 : decode cX10_hours 43 = .ok (.ireturn, 1) := by decide +kernel
theorem dX10_isSome_0 : decode cX10_isSome 0 = .ok (.iload_n 0, 1) := by decide +kernel
theorem dX10_isSome_1 : decode cX10_isSome 1 = .ok (.iconst 1, 1) := by decide +kernel
theorem dX10_isSome_2 : decode cX10_isSome 2 = .ok (.sipush 240, 3) := by decide +kernel
theorem dX10_isSome_5 : decode cX10_isSome 5 = .ok (.invokestatic 263, 3) := by decide +kernel
theorem dX10_isSome_8 : decode cX10_isSome 8 = .ok (.ireturn, 1) := by decide +kernel
theorem dX10_soons_0 : decode cX10_soons 0 = .ok (.aload_n 0, 1) := by decide +kernel
theorem dX10_soons_1 : decode cX10_soons 1 = .ok (.getfield 108, 3) := by decide +kernel
theorem dX10_soons_4 : decode cX10_soons 4 = .ok (.iconst 0, 1) := by decide +kernel
theorem dX10_soons_5 : decode cX10_soons 5 = .ok (.aload_n 0, 1) := by decide +kernel
theorem dX10_soons_6 : decode cX10_soons 6 = .ok (.getfield 111, 3) := by decide +kernel
theorem dX10_soons_9 : decode cX10_soons 9 = .ok (.iconst 0, 1) := by decide +kernel
theorem dX10_soons_10 : decode cX10_soons 10 = .ok (.invokestatic 396, 3) := by decide +kernel
theorem dX10_soons_13 : decode cX10_soons 13 = .ok (.iconst 0, 1) := by decide +kernel
theorem dX10_soons_14 : decode cX10_soons 14 = .ok (.istore_n 2, 1) := by decide +kernel
theorem dX10_soons_15 : decode cX10_soons 15 = .ok (.iload_n 2, 1) := by decide +kernel
theorem dX10_soons_16 : decode cX10_soons 16 = .ok (.bipush 10, 2) := by decide +kernel
theorem dX10_soons_18 : decode cX10_soons 18 = .ok (.if_icmp .ge 16, 3) := by decide +kernel
theorem dX10_soons_21 : decode cX10_soons 21 = .ok (.aload_n 0, 1) := by decide +kernel
theorem dX10_soons_22 : decode cX10_soons 22 = .ok (.getfield 120, 3) := by decide +kernel
theorem dX10_soons_25 : decode cX10_soons 25 = .ok (.iload_n 2, 1) := by decide +kernel
theorem dX10_soons_26 : decode cX10_soons 26 = .ok (.iconst (-1), 1) := by decide +kernel
theorem dX10_soons_27 : decode cX10_soons 27 = .ok (.iastore, 1) := by decide +kernel
theorem dX10_soons_28 : decode cX10_soons 28 = .ok (.iinc 2 1, 3) := by decide +kernel
theorem dX10_soons_31 : decode cX10_soons 31 = .ok (.goto (-16), 3) := by decide +kernel
theorem dX10_soons_34 : decode cX10_soons 34 = .ok (.iconst 0, 1) := by decide +kernel
theorem dX10_soons_35 : decode cX10_soons 35 = .ok (.istore_n 2, 1) := by decide +kernel
theorem dX10_soons_36 : decode cX10_soons 36 = .ok (.iload_n 2, 1) := by decide +kernel
theorem dX10_soons_37 : decode cX10_soons 37 = .ok (.iload_n 1, 1) := by decide +kernel
theorem dX10_soons_38 : decode cX10_soons 38 = .ok (.if_icmp .gt 57, 3) := by decide +kernel
theorem dX10_soons_41 : decode cX10_soons 41 = .ok (.iconst 0, 1) := by decide +kernel
theorem dX10_soons_42 : decode cX10_soons 42 = .ok (.istore_n 3, 1) := by decide +kernel
theorem dX10_soons_43 : decode cX10_soons 43 = .ok (.iload_n 3, 1) := by decide +kernel
theorem dX10_soons_44 : decode cX10_soons 44 = .ok (.aload_n 0, 1) := by decide +kernel
theorem dX10_soons_45 : decode cX10_soons 45 = .ok (.getfield 16, 3) := by decide +kernel
theorem dX10_soons_48 : decode cX10_soons 48 = .ok (.iconst 0, 1) := by decide +kernel
theorem dX10_soons_49 : decode cX10_soons 49 = .ok (.iaload, 1) := by decide +kernel
theorem dX10_soons_50 : decode cX10_soons 50 = .ok (.if_icmp .ge 34, 3) := by decide +kernel
theorem dX10_soons_53 : decode cX10_soons 53 = .ok (.aload_n 0, 1) := by decide +kernel
theorem dX10_soons_54 : decode cX10_soons 54 = .ok (.getfield 108, 3) := by decide +kernel
theorem dX10_soons_57 : decode cX10_soons 57 = .ok (.iload_n 3, 1) := by decide +kernel
theorem dX10_soons_58 : decode cX10_soons 58 = .ok (.iaload, 1) := by decide +kernel
theorem dX10_soons_59 : decode cX10_soons 59 = .ok (.ifCond .ne 19, 3) := by decide +kernel
theorem dX10_soons_62 : decode cX10_soons 62 = .ok (.aload_n 0, 1) := by decide +kernel
theorem dX10_soons_63 : decode cX10_soons 63 = .ok (.getfield 120, 3) := by decide +kernel
theorem dX10_soons_66 : decode cX10_soons 66 = .ok (.iload_n 3, 1) := by decide +kernel
theorem dX10_soons_67 : decode cX10_soons 67 = .ok (.iaload, 1) := by decide +kernel
theorem dX10_soons_68 : decode cX10_soons 68 = .ok (.ifCond .ge 10, 3) := by decide +kernel
theorem dX10_soons_71 : decode cX10_soons 71 = .ok (.aload_n 0, 1) := by decide +kernel
theorem dX10_soons_72 : decode cX10_soons 72 = .ok (.getfield 120, 3) := by decide +kernel
theorem dX10_soons_75 : decode cX10_soons 75 = .ok (.iload_n 3, 1) := by decide +kernel
theorem dX10_soons_76 : decode cX10_soons 76 = .ok (.iload_n 2, 1) := by decide +kernel
theorem dX10_soons_77 : decode cX10_soons 77 = .ok (.iastore, 1) := by decide +kernel
theorem dX10_soons_78 : decode cX10_soons 78 = .ok (.iinc 3 1, 3) := by decide +kernel
theorem dX10_soons_81 : decode cX10_soons 81 = .ok (.goto (-38), 3) := by decide +kernel
theorem dX10_soons_84 : decode cX10_soons 84 = .ok (.aload_n 0, 1) := by decide +kernel
theorem dX10_soons_85 : decode cX10_soons 85 = .ok (.iconst 0, 1) := by decide +kernel
theorem dX10_soons_86 : decode cX10_soons 86 = .ok (.invokevirtual 393, 3) := by decide +kernel
theorem dX10_soons_89 : decode cX10_soons 89 = .ok (.iinc 2 1, 3) := by decide +kernel
theorem dX10_soons_92 : decode cX10_soons 92 = .ok (.goto (-56), 3) := by decide +kernel
theorem dX10_soons_95 : decode cX10_soons 95 = .ok (.aload_n 0, 1) := by decide +kernel
theorem dX10_soons_96 : decode cX10_soons 96 = .ok (.getfield 111, 3) := by decide +kernel
theorem dX10_soons_99 : decode cX10_soons 99 = .ok (.iconst 0, 1) := by decide +kernel
theorem dX10_soons_100 : decode cX10_soons 100 = .ok (.aload_n 0, 1) := by decide +kernel
theorem dX10_soons_101 : decode cX10_soons 101 = .ok (.getfield 108, 3) := by decide +kernel
theorem dX10_soons_104 : decode cX10_soons 104 = .ok (.iconst 0, 1) := by decide +kernel
theorem dX10_soons_105 : decode cX10_soons 105 = .ok (.invokestatic 396, 3) := by decide +kernel
theorem dX10_soons_108 : decode cX10_soons 108 = .ok (.return_, 1) := by decide +kernel
theorem dX10_soon_0 : decode cX10_soon 0 = .ok (.aload_n 0, 1) := by decide +kernel
theorem dX10_soon_1 : decode cX10_soon 1 = .ok (.iconst 0, 1) := by decide +kernel
theorem dX10_soon_2 : decode cX10_soon 2 = .ok (.putfield 135, 3) := by decide +kernel
theorem dX10_soon_5 : decode cX10_soon 5 = .ok (.aload_n 0, 1) := by decide +kernel
theorem dX10_soon_6 : decode cX10_soon 6 = .ok (.iload_n 1, 1) := by decide +kernel
theorem dX10_soon_7 : decode cX10_soon 7 = .ok (.invokevirtual 337, 3) := by decide +kernel
theorem dX10_soon_10 : decode cX10_soon 10 = .ok (.ifCond .eq 10, 3) := by decide +kernel
theorem dX10_soon_13 : decode cX10_soon 13 = .ok (.iload_n 2, 1) := by decide +kernel
theorem dX10_soon_14 : decode cX10_soon 14 = .ok (.invokestatic 400, 3) := by decide +kernel
theorem dX10_soon_17 : decode cX10_soon 17 = .ok (.ifCond .ne 5, 3) := by decide +kernel
theorem dX10_soon_20 : decode cX10_soon 20 = .ok (.iconst (-1), 1) := by decide +kernel
theorem dX10_soon_21 : decode cX10_soon 21 = .ok (.ireturn, 1) := by decide +kernel
theorem dX10_soon_22 : decode cX10_soon 22 = .ok (.aload_n 0, 1) := by decide +kernel
theorem dX10_soon_23 : decode cX10_soon 23 = .ok (.iload_n 2, 1) := by decide +kernel
theorem dX10_soon_24 : decode cX10_soon 24 = .ok (.invokevirtual 403, 3) := by decide +kernel
theorem dX10_soon_27 : decode cX10_soon 27 = .ok (.aload_n 0, 1) := by decide +kernel
theorem dX10_soon_28 : decode cX10_soon 28 = .ok (.getfield 120, 3) := by decide +kernel
theorem dX10_soon_31 : decode cX10_soon 31 = .ok (.iload_n 1, 1) := by decide +kernel
theorem dX10_soon_32 : decode cX10_soon 32 = .ok (.iaload, 1) := by decide +kernel
theorem dX10_soon_33 : decode cX10_soon 33 = .ok (.ireturn, 1) := by decide +kernel
theorem dX10_holds_0 : decode cX10_holds 0 = .ok (.aload_n 0, 1) := by decide +kernel
theorem dX10_holds_1 : decode cX10_holds 1 = .ok (.getfield 108, 3) := by decide +kernel
theorem dX10_holds_4 : decode cX10_holds 4 = .ok (.iconst 0, 1) := by decide +kernel
theorem dX10_holds_5 : decode cX10_holds 5 = .ok (.aload_n 0, 1) := by decide +kernel
theorem dX10_holds_6 : decode cX10_holds 6 = .ok (.getfield 111, 3) := by decide +kernel
theorem dX10_holds_9 : decode cX10_holds 9 = .ok (.iconst 0, 1) := by decide +kernel
theorem dX10_holds_10 : decode cX10_holds 10 = .ok (.invokestatic 396, 3) := by decide +kernel
theorem dX10_holds_13 : decode cX10_holds 13 = .ok (.aload_n 0, 1) := by decide +kernel
theorem dX10_holds_14 : decode cX10_holds 14 = .ok (.iload_n 1, 1) := by decide +kernel
theorem dX10_holds_15 : decode cX10_holds 15 = .ok (.iload_n 2, 1) := by decide +kernel
theorem dX10_holds_16 : decode cX10_holds 16 = .ok (.invokevirtual 355, 3) := by decide +kernel
theorem dX10_holds_19 : decode cX10_holds 19 = .ok (.pop, 1) := by decide +kernel
theorem dX10_holds_20 : decode cX10_holds 20 = .ok (.iconst 1, 1) := by decide +kernel
theorem dX10_holds_21 : decode cX10_holds 21 = .ok (.istore 4, 2) := by decide +kernel
theorem dX10_holds_23 : decode cX10_holds 23 = .ok (.iconst 0, 1) := by decide +kernel
theorem dX10_holds_24 : decode cX10_holds 24 = .ok (.istore 5, 2) := by decide +kernel
theorem dX10_holds_26 : decode cX10_holds 26 = .ok (.iload 5, 2) := by decide +kernel
theorem dX10_holds_28 : decode cX10_holds 28 = .ok (.iload_n 3, 1) := by decide +kernel
theorem dX10_holds_29 : decode cX10_holds 29 = .ok (.if_icmp .ge 35, 3) := by decide +kernel
theorem dX10_holds_32 : decode cX10_holds 32 = .ok (.iload 4, 2) := by decide +kernel
theorem dX10_holds_34 : decode cX10_holds 34 = .ok (.ifCond .eq 30, 3) := by decide +kernel
theorem dX10_holds_37 : decode cX10_holds 37 = .ok (.aload_n 0, 1) := by decide +kernel
theorem dX10_holds_38 : decode cX10_holds 38 = .ok (.iconst 0, 1) := by decide +kernel
end
section
theorem dX10_holds_39 : decode cX10_holds 39 = .ok (.invokevirtual 393, 3) := by decide +kernel
theorem dX10_holds_42 : decode cX10_holds 42 = .ok (.aload_n 0, 1) := by decide +kernel
theorem dX10_holds_43 : decode cX10_holds 43 = .ok (.getfield 108, 3) := by decide +kernel
theorem dX10_holds_46 : decode cX10_holds 46 = .ok (.iload_n 1, 1) := by decide +kernel
theorem dX10_holds_47 : decode cX10_holds 47 = .ok (.iaload, 1) := by decide +kernel
theorem dX10_holds_48 : decode cX10_holds 48 = .ok (.ifCond .le 7, 3) := by decide +kernel
theorem dX10_holds_51 : decode cX10_holds 51 = .ok (.iconst 1, 1) := by decide +kernel
theorem dX10_holds_52 : decode cX10_holds 52 = .ok (.goto 4, 3) := by decide +kernel
theorem dX10_holds_55 : decode cX10_holds 55 = .ok (.iconst 0, 1) := by decide +kernel
theorem dX10_holds_56 : decode cX10_holds 56 = .ok (.istore 4, 2) := by decide +kernel
theorem dX10_holds_58 : decode cX10_holds 58 = .ok (.iinc 5 1, 3) := by decide +kernel
theorem dX10_holds_61 : decode cX10_holds 61 = .ok (.goto (-35), 3) := by decide +kernel
theorem dX10_holds_64 : decode cX10_holds 64 = .ok (.aload_n 0, 1) := by decide +kernel
theorem dX10_holds_65 : decode cX10_holds 65 = .ok (.getfield 111, 3) := by decide +kernel
theorem dX10_holds_68 : decode cX10_holds 68 = .ok (.iconst 0, 1) := by decide +kernel
theorem dX10_holds_69 : decode cX10_holds 69 = .ok (.aload_n 0, 1) := by decide +kernel
theorem dX10_holds_70 : decode cX10_holds 70 = .ok (.getfield 108, 3) := by decide +kernel
theorem dX10_holds_73 : decode cX10_holds 73 = .ok (.iconst 0, 1) := by decide +kernel
theorem dX10_holds_74 : decode cX10_holds 74 = .ok (.invokestatic 396, 3) := by decide +kernel
theorem dX10_holds_77 : decode cX10_holds 77 = .ok (.iload 4, 2) := by decide +kernel
theorem dX10_holds_79 : decode cX10_holds 79 = .ok (.ireturn, 1) := by decide +kernel
theorem dX10_needs_0 : decode cX10_needs 0 = .ok (.aload_n 0, 1) := by decide +kernel
theorem dX10_needs_1 : decode cX10_needs 1 = .ok (.iconst 0, 1) := by decide +kernel
theorem dX10_needs_2 : decode cX10_needs 2 = .ok (.putfield 135, 3) := by decide +kernel
theorem dX10_needs_5 : decode cX10_needs 5 = .ok (.aload_n 0, 1) := by decide +kernel
theorem dX10_needs_6 : decode cX10_needs 6 = .ok (.iload_n 1, 1) := by decide +kernel
theorem dX10_needs_7 : decode cX10_needs 7 = .ok (.invokevirtual 337, 3) := by decide +kernel
theorem dX10_needs_10 : decode cX10_needs 10 = .ok (.ifCond .eq 10, 3) := by decide +kernel
theorem dX10_needs_13 : decode cX10_needs 13 = .ok (.iload_n 2, 1) := by decide +kernel
theorem dX10_needs_14 : decode cX10_needs 14 = .ok (.invokestatic 400, 3) := by decide +kernel
theorem dX10_needs_17 : decode cX10_needs 17 = .ok (.ifCond .ne 5, 3) := by decide +kernel
theorem dX10_needs_20 : decode cX10_needs 20 = .ok (.iconst (-1), 1) := by decide +kernel
theorem dX10_needs_21 : decode cX10_needs 21 = .ok (.ireturn, 1) := by decide +kernel
theorem dX10_needs_22 : decode cX10_needs 22 = .ok (.bipush 99, 2) := by decide +kernel
theorem dX10_needs_24 : decode cX10_needs 24 = .ok (.aload_n 0, 1) := by decide +kernel
theorem dX10_needs_25 : decode cX10_needs 25 = .ok (.getfield 108, 3) := by decide +kernel
theorem dX10_needs_28 : decode cX10_needs 28 = .ok (.iload_n 1, 1) := by decide +kernel
theorem dX10_needs_29 : decode cX10_needs 29 = .ok (.iaload, 1) := by decide +kernel
theorem dX10_needs_30 : decode cX10_needs 30 = .ok (.isub, 1) := by decide +kernel
theorem dX10_needs_31 : decode cX10_needs 31 = .ok (.aload_n 0, 1) := by decide +kernel
theorem dX10_needs_32 : decode cX10_needs 32 = .ok (.getfield 108, 3) := by decide +kernel
theorem dX10_needs_35 : decode cX10_needs 35 = .ok (.bipush 10, 2) := by decide +kernel
theorem dX10_needs_37 : decode cX10_needs 37 = .ok (.iload_n 1, 1) := by decide +kernel
theorem dX10_needs_38 : decode cX10_needs 38 = .ok (.iadd, 1) := by decide +kernel
theorem dX10_needs_39 : decode cX10_needs 39 = .ok (.iaload, 1) := by decide +kernel
theorem dX10_needs_40 : decode cX10_needs 40 = .ok (.isub, 1) := by decide +kernel
theorem dX10_needs_41 : decode cX10_needs 41 = .ok (.istore_n 3, 1) := by decide +kernel
theorem dX10_needs_42 : decode cX10_needs 42 = .ok (.iconst 0, 1) := by decide +kernel
theorem dX10_needs_43 : decode cX10_needs 43 = .ok (.istore 4, 2) := by decide +kernel
theorem dX10_needs_45 : decode cX10_needs 45 = .ok (.iload 4, 2) := by decide +kernel
theorem dX10_needs_47 : decode cX10_needs 47 = .ok (.iload_n 3, 1) := by decide +kernel
theorem dX10_needs_48 : decode cX10_needs 48 = .ok (.if_icmp .gt 23, 3) := by decide +kernel
theorem dX10_needs_51 : decode cX10_needs 51 = .ok (.aload_n 0, 1) := by decide +kernel
theorem dX10_needs_52 : decode cX10_needs 52 = .ok (.iload_n 1, 1) := by decide +kernel
theorem dX10_needs_53 : decode cX10_needs 53 = .ok (.iload 4, 2) := by decide +kernel
theorem dX10_needs_55 : decode cX10_needs 55 = .ok (.iload_n 2, 1) := by decide +kernel
theorem dX10_needs_56 : decode cX10_needs 56 = .ok (.invokevirtual 406, 3) := by decide +kernel
theorem dX10_needs_59 : decode cX10_needs 59 = .ok (.ifCond .eq 6, 3) := by decide +kernel
theorem dX10_needs_62 : decode cX10_needs 62 = .ok (.iload 4, 2) := by decide +kernel
theorem dX10_needs_64 : decode cX10_needs 64 = .ok (.ireturn, 1) := by decide +kernel
theorem dX10_needs_65 : decode cX10_needs 65 = .ok (.iinc 4 1, 3) := by decide +kernel
theorem dX10_needs_68 : decode cX10_needs 68 = .ok (.goto (-23), 3) := by decide +kernel
theorem dX10_needs_71 : decode cX10_needs 71 = .ok (.iconst (-1), 1) := by decide +kernel
theorem dX10_needs_72 : decode cX10_needs 72 = .ok (.ireturn, 1) := by decide +kernel
theorem dX10_orders_0 : decode cX10_orders 0 = .ok (.aload_n 0, 1) := by decide +kernel
theorem dX10_orders_1 : decode cX10_orders 1 = .ok (.iload_n 1, 1) := by decide +kernel
theorem dX10_orders_2 : decode cX10_orders 2 = .ok (.invokevirtual 403, 3) := by decide +kernel
theorem dX10_orders_5 : decode cX10_orders 5 = .ok (.iconst 0, 1) := by decide +kernel
theorem dX10_orders_6 : decode cX10_orders 6 = .ok (.istore_n 2, 1) := by decide +kernel
theorem dX10_orders_7 : decode cX10_orders 7 = .ok (.iconst 0, 1) := by decide +kernel
theorem dX10_orders_8 : decode cX10_orders 8 = .ok (.istore_n 3, 1) := by decide +kernel
theorem dX10_orders_9 : decode cX10_orders 9 = .ok (.iload_n 3, 1) := by decide +kernel
theorem dX10_orders_10 : decode cX10_orders 10 = .ok (.iload_n 1, 1) := by decide +kernel
theorem dX10_orders_11 : decode cX10_orders 11 = .ok (.iconst 1, 1) := by decide +kernel
theorem dX10_orders_12 : decode cX10_orders 12 = .ok (.iadd, 1) := by decide +kernel
theorem dX10_orders_13 : decode cX10_orders 13 = .ok (.if_icmp .gt 63, 3) := by decide +kernel
theorem dX10_orders_16 : decode cX10_orders 16 = .ok (.iconst 0, 1) := by decide +kernel
theorem dX10_orders_17 : decode cX10_orders 17 = .ok (.istore 4, 2) := by decide +kernel
theorem dX10_orders_19 : decode cX10_orders 19 = .ok (.iload 4, 2) := by decide +kernel
theorem dX10_orders_21 : decode cX10_orders 21 = .ok (.aload_n 0, 1) := by decide +kernel
theorem dX10_orders_22 : decode cX10_orders 22 = .ok (.getfield 16, 3) := by decide +kernel
theorem dX10_orders_25 : decode cX10_orders 25 = .ok (.iconst 0, 1) := by decide +kernel
theorem dX10_orders_26 : decode cX10_orders 26 = .ok (.iaload, 1) := by decide +kernel
theorem dX10_orders_27 : decode cX10_orders 27 = .ok (.if_icmp .ge 43, 3) := by decide +kernel
theorem dX10_orders_30 : decode cX10_orders 30 = .ok (.iload_n 3, 1) := by decide +kernel
theorem dX10_orders_31 : decode cX10_orders 31 = .ok (.iload_n 1, 1) := by decide +kernel
theorem dX10_orders_32 : decode cX10_orders 32 = .ok (.if_icmp .le 7, 3) := by decide +kernel
theorem dX10_orders_35 : decode cX10_orders 35 = .ok (.iconst (-1), 1) := by decide +kernel
theorem dX10_orders_36 : decode cX10_orders 36 = .ok (.goto 4, 3) := by decide +kernel
theorem dX10_orders_39 : decode cX10_orders 39 = .ok (.iload_n 3, 1) := by decide +kernel
theorem dX10_orders_40 : decode cX10_orders 40 = .ok (.aload_n 0, 1) := by decide +kernel
theorem dX10_orders_41 : decode cX10_orders 41 = .ok (.getfield 120, 3) := by decide +kernel
theorem dX10_orders_44 : decode cX10_orders 44 = .ok (.iload 4, 2) := by decide +kernel
theorem dX10_orders_46 : decode cX10_orders 46 = .ok (.iaload, 1) := by decide +kernel
theorem dX10_orders_47 : decode cX10_orders 47 = .ok (.if_icmp .eq 6, 3) := by decide +kernel
theorem dX10_orders_50 : decode cX10_orders 50 = .ok (.goto 14, 3) := by decide +kernel
theorem dX10_orders_53 : decode cX10_orders 53 = .ok (.aload_n 0, 1) := by decide +kernel
theorem dX10_orders_54 : decode cX10_orders 54 = .ok (.getfield 123, 3) := by decide +kernel
theorem dX10_orders_57 : decode cX10_orders 57 = .ok (.iload_n 2, 1) := by decide +kernel
theorem dX10_orders_58 : decode cX10_orders 58 = .ok (.iload 4, 2) := by decide +kernel
theorem dX10_orders_60 : decode cX10_orders 60 = .ok (.iastore, 1) := by decide +kernel
theorem dX10_orders_61 : decode cX10_orders 61 = .ok (.iinc 2 1, 3) := by decide +kernel
theorem dX10_orders_64 : decode cX10_orders 64 = .ok (.iinc 4 1, 3) := by decide +kernel
theorem dX10_orders_67 : decode cX10_orders 67 = .ok (.goto (-48), 3) := by decide +kernel
theorem dX10_orders_70 : decode cX10_orders 70 = .ok (.iinc 3 1, 3) := by decide +kernel
theorem dX10_orders_73 : decode cX10_orders 73 = .ok (.goto (-64), 3) := by decide +kernel
theorem dX10_orders_76 : decode cX10_orders 76 = .ok (.return_, 1) := by decide +kernel
theorem dX10_first_0 : decode cX10_first 0 = .ok (.aload_n 0, 1) := by decide +kernel
theorem dX10_first_1 : decode cX10_first 1 = .ok (.iconst 0, 1) := by decide +kernel
theorem dX10_first_2 : decode cX10_first 2 = .ok (.putfield 135, 3) := by decide +kernel
theorem dX10_first_5 : decode cX10_first 5 = .ok (.iload_n 1, 1) := by decide +kernel
theorem dX10_first_6 : decode cX10_first 6 = .ok (.invokestatic 400, 3) := by decide +kernel
theorem dX10_first_9 : decode cX10_first 9 = .ok (.ifCond .eq 11, 3) := by decide +kernel
theorem dX10_first_12 : decode cX10_first 12 = .ok (.aload_n 0, 1) := by decide +kernel
theorem dX10_first_13 : decode cX10_first 13 = .ok (.iload_n 2, 1) := by decide +kernel
theorem dX10_first_14 : decode cX10_first 14 = .ok (.invokevirtual 337, 3) := by decide +kernel
theorem dX10_first_17 : decode cX10_first 17 = .ok (.ifCond .ne 5, 3) := by decide +kernel
theorem dX10_first_20 : decode cX10_first 20 = .ok (.iconst (-1), 1) := by decide +kernel
theorem dX10_first_21 : decode cX10_first 21 = .ok (.ireturn, 1) := by decide +kernel
theorem dX10_first_22 : decode cX10_first 22 = .ok (.aload_n 0, 1) := by decide +kernel
theorem dX10_first_23 : decode cX10_first 23 = .ok (.iload_n 1, 1) := by decide +kernel
theorem dX10_first_24 : decode cX10_first 24 = .ok (.invokevirtual 409, 3) := by decide +kernel
theorem dX10_first_27 : decode cX10_first 27 = .ok (.aload_n 0, 1) := by decide +kernel
theorem dX10_first_28 : decode cX10_first 28 = .ok (.getfield 123, 3) := by decide +kernel
theorem dX10_first_31 : decode cX10_first 31 = .ok (.iload_n 2, 1) := by decide +kernel
theorem dX10_first_32 : decode cX10_first 32 = .ok (.iaload, 1) := by decide +kernel
theorem dX10_first_33 : decode cX10_first 33 = .ok (.ireturn, 1) := by decide +kernel
theorem dX10_enough_0 : decode cX10_enough 0 = .ok (.aload_n 0, 1) := by decide +kernel
theorem dX10_enough_1 : decode cX10_enough 1 = .ok (.iconst 0, 1) := by decide +kernel
theorem dX10_enough_2 : decode cX10_enough 2 = .ok (.putfield 135, 3) := by decide +kernel
theorem dX10_enough_5 : decode cX10_enough 5 = .ok (.iload_n 1, 1) := by decide +kernel
theorem dX10_enough_6 : decode cX10_enough 6 = .ok (.iconst 0, 1) := by decide +kernel
theorem dX10_enough_7 : decode cX10_enough 7 = .ok (.bipush 99, 2) := by decide +kernel
theorem dX10_enough_9 : decode cX10_enough 9 = .ok (.invokestatic 263, 3) := by decide +kernel
theorem dX10_enough_12 : decode cX10_enough 12 = .ok (.ifCond .eq 10, 3) := by decide +kernel
theorem dX10_enough_15 : decode cX10_enough 15 = .ok (.iload_n 2, 1) := by decide +kernel
theorem dX10_enough_16 : decode cX10_enough 16 = .ok (.invokestatic 400, 3) := by decide +kernel
theorem dX10_enough_19 : decode cX10_enough 19 = .ok (.ifCond .ne 5, 3) := by decide +kernel
theorem dX10_enough_22 : decode cX10_enough 22 = .ok (.iconst (-1), 1) := by decide +kernel
theorem dX10_enough_23 : decode cX10_enough 23 = .ok (.ireturn, 1) := by decide +kernel
theorem dX10_enough_24 : decode cX10_enough 24 = .ok (.aload_n 0, 1) := by decide +kernel
theorem dX10_enough_25 : decode cX10_enough 25 = .ok (.iload_n 2, 1) := by decide +kernel
theorem dX10_enough_26 : decode cX10_enough 26 = .ok (.invokevirtual 409, 3) := by decide +kernel
theorem dX10_enough_29 : decode cX10_enough 29 = .ok (.aload_n 0, 1) := by decide +kernel
theorem dX10_enough_30 : decode cX10_enough 30 = .ok (.getfield 108, 3) := by decide +kernel
theorem dX10_enough_33 : decode cX10_enough 33 = .ok (.iconst 0, 1) := by decide +kernel
theorem dX10_enough_34 : decode cX10_enough 34 = .ok (.aload_n 0, 1) := by decide +kernel
theorem dX10_enough_35 : decode cX10_enough 35 = .ok (.getfield 111, 3) := by decide +kernel
theorem dX10_enough_38 : decode cX10_enough 38 = .ok (.iconst 0, 1) := by decide +kernel
theorem dX10_enough_39 : decode cX10_enough 39 = .ok (.invokestatic 396, 3) := by decide +kernel
theorem dX10_enough_42 : decode cX10_enough 42 = .ok (.iconst 1, 1) := by decide +kernel
theorem dX10_enough_43 : decode cX10_enough 43 = .ok (.istore_n 3, 1) := by decide +kernel
theorem dX10_enough_44 : decode cX10_enough 44 = .ok (.iconst 0, 1) := by decide +kernel
theorem dX10_enough_45 : decode cX10_enough 45 = .ok (.istore 4, 2) := by decide +kernel
theorem dX10_enough_47 : decode cX10_enough 47 = .ok (.iload 4, 2) := by decide +kernel
theorem dX10_enough_49 : decode cX10_enough 49 = .ok (.iload_n 2, 1) := by decide +kernel
theorem dX10_enough_50 : decode cX10_enough 50 = .ok (.if_icmp .ge 74, 3) := by decide +kernel
theorem dX10_enough_53 : decode cX10_enough 53 = .ok (.iload 4, 2) := by decide +kernel
theorem dX10_enough_55 : decode cX10_enough 55 = .ok (.aload_n 0, 1) := by decide +kernel
theorem dX10_enough_56 : decode cX10_enough 56 = .ok (.getfield 16, 3) := by decide +kernel
theorem dX10_enough_59 : decode cX10_enough 59 = .ok (.iconst 0, 1) := by decide +kernel
theorem dX10_enough_60 : decode cX10_enough 60 = .ok (.iaload, 1) := by decide +kernel
theorem dX10_enough_61 : decode cX10_enough 61 = .ok (.if_icmp .ge 16, 3) := by decide +kernel
theorem dX10_enough_64 : decode cX10_enough 64 = .ok (.aload_n 0, 1) := by decide +kernel
theorem dX10_enough_65 : decode cX10_enough 65 = .ok (.aload_n 0, 1) := by decide +kernel
theorem dX10_enough_66 : decode cX10_enough 66 = .ok (.getfield 123, 3) := by decide +kernel
theorem dX10_enough_69 : decode cX10_enough 69 = .ok (.iload 4, 2) := by decide +kernel
theorem dX10_enough_71 : decode cX10_enough 71 = .ok (.iaload, 1) := by decide +kernel
theorem dX10_enough_72 : decode cX10_enough 72 = .ok (.iload_n 1, 1) := by decide +kernel
theorem dX10_enough_73 : decode cX10_enough 73 = .ok (.invokevirtual 355, 3) := by decide +kernel
theorem dX10_enough_76 : decode cX10_enough 76 = .ok (.pop, 1) := by decide +kernel
theorem dX10_enough_77 : decode cX10_enough 77 = .ok (.aload_n 0, 1) := by decide +kernel
theorem dX10_enough_78 : decode cX10_enough 78 = .ok (.iconst 0, 1) := by decide +kernel
theorem dX10_enough_79 : decode cX10_enough 79 = .ok (.invokevirtual 393, 3) := by decide +kernel
theorem dX10_enough_82 : decode cX10_enough 82 = .ok (.iconst 0, 1) := by decide +kernel
theorem dX10_enough_83 : decode cX10_enough 83 = .ok (.istore 5, 2) := by decide +kernel
theorem dX10_enough_85 : decode cX10_enough 85 = .ok (.iload 5, 2) := by decide +kernel
theorem dX10_enough_87 : decode cX10_enough 87 = .ok (.aload_n 0, 1) := by decide +kernel
theorem dX10_enough_88 : decode cX10_enough 88 = .ok (.getfield 16, 3) := by decide +kernel
theorem dX10_enough_91 : decode cX10_enough 91 = .ok (.iconst 0, 1) := by decide +kernel
theorem dX10_enough_92 : decode cX10_enough 92 = .ok (.iaload, 1) := by decide +kernel
theorem dX10_enough_93 : decode cX10_enough 93 = .ok (.if_icmp .ge 25, 3) := by decide +kernel
theorem dX10_enough_96 : decode cX10_enough 96 = .ok (.aload_n 0, 1) := by decide +kernel
theorem dX10_enough_97 : decode cX10_enough 97 = .ok (.getfield 108, 3) := by decide +kernel
theorem dX10_enough_100 : decode cX10_enough 100 = .ok (.iload 5, 2) := by decide +kernel
theorem dX10_enough_102 : decode cX10_enough 102 = .ok (.iaload, 1) := by decide +kernel
theorem dX10_enough_103 : decode cX10_enough 103 = .ok (.ifCond .ne 7, 3) := by decide +kernel
theorem dX10_enough_106 : decode cX10_enough 106 = .ok (.iconst 0, 1) := by decide +kernel
theorem dX10_enough_107 : decode cX10_enough 107 = .ok (.goto 4, 3) := by decide +kernel
theorem dX10_enough_110 : decode cX10_enough 110 = .ok (.iload_n 3, 1) := by decide +kernel
theorem dX10_enough_111 : decode cX10_enough 111 = .ok (.istore_n 3, 1) := by decide +kernel
theorem dX10_enough_112 : decode cX10_enough 112 = .ok (.iinc 5 1, 3) := by decide +kernel
theorem dX10_enough_115 : decode cX10_enough 115 = .ok (.goto (-30), 3) := by decide +kernel
theorem dX10_enough_118 : decode cX10_enough 118 = .ok (.iinc 4 1, 3) := by decide +kernel
theorem dX10_enough_121 : decode cX10_enough 121 = .ok (.goto (-74), 3) := by decide +kernel
theorem dX10_enough_124 : decode cX10_enough 124 = .ok (.aload_n 0, 1) := by decide +kernel
theorem dX10_enough_125 : decode cX10_enough 125 = .ok (.getfield 111, 3) := by decide +kernel
theorem dX10_enough_128 : decode cX10_enough 128 = .ok (.iconst 0, 1) := by decide +kernel
theorem dX10_enough_129 : decode cX10_enough 129 = .ok (.aload_n 0, 1) := by decide +kernel
theorem dX10_enough_130 : decode cX10_enough 130 = .ok (.getfield 108, 3) := by decide +kernel
theorem dX10_enough_133 : decode cX10_enough 133 = .ok (.iconst 0, 1) := by decide +kernel
theorem dX10_enough_134 : decode cX10_enough 134 = .ok (.invokestatic 396, 3) := by decide +kernel
theorem dX10_enough_137 : decode cX10_enough 137 = .ok (.iload_n 3, 1) := by decide +kernel
theorem dX10_enough_138 : decode cX10_enough 138 = .ok (.ireturn, 1) := by decide +kernel
theorem dX10_tries_0 : decode cX10_tries 0 = .ok (.iload_n 1, 1) := by decide +kernel
theorem dX10_tries_1 : decode cX10_tries 1 = .ok (.ifCond .ge 78, 3) := by decide +kernel
theorem dX10_tries_4 : decode cX10_tries 4 = .ok (.aload_n 0, 1) := by decide +kernel
theorem dX10_tries_5 : decode cX10_tries 5 = .ok (.getfield 412, 3) := by decide +kernel
theorem dX10_tries_8 : decode cX10_tries 8 = .ok (.ifCond .lt 30, 3) := by decide +kernel
theorem dX10_tries_11 : decode cX10_tries 11 = .ok (.iload 4, 2) := by decide +kernel
theorem dX10_tries_13 : decode cX10_tries 13 = .ok (.aload_n 0, 1) := by decide +kernel
theorem dX10_tries_14 : decode cX10_tries 14 = .ok (.getfield 412, 3) := by decide +kernel
theorem dX10_tries_17 : decode cX10_tries 17 = .ok (.if_icmp .gt 20, 3) := by decide +kernel
theorem dX10_tries_20 : decode cX10_tries 20 = .ok (.iload 4, 2) := by decide +kernel
theorem dX10_tries_22 : decode cX10_tries 22 = .ok (.aload_n 0, 1) := by decide +kernel
theorem dX10_tries_23 : decode cX10_tries 23 = .ok (.getfield 412, 3) := by decide +kernel
theorem dX10_tries_26 : decode cX10_tries 26 = .ok (.if_icmp .ne 12, 3) := by decide +kernel
theorem dX10_tries_29 : decode cX10_tries 29 = .ok (.iload_n 3, 1) := by decide +kernel
theorem dX10_tries_30 : decode cX10_tries 30 = .ok (.aload_n 0, 1) := by decide +kernel
theorem dX10_tries_31 : decode cX10_tries 31 = .ok (.getfield 415, 3) := by decide +kernel
theorem dX10_tries_34 : decode cX10_tries 34 = .ok (.if_icmp .lt 4, 3) := by decide +kernel
theorem dX10_tries_37 : decode cX10_tries 37 = .ok (.return_, 1) := by decide +kernel
theorem dX10_tries_38 : decode cX10_tries 38 = .ok (.aload_n 0, 1) := by decide +kernel
theorem dX10_tries_39 : decode cX10_tries 39 = .ok (.iload 4, 2) := by decide +kernel
theorem dX10_tries_41 : decode cX10_tries 41 = .ok (.putfield 412, 3) := by decide +kernel
theorem dX10_tries_44 : decode cX10_tries 44 = .ok (.aload_n 0, 1) := by decide +kernel
theorem dX10_tries_45 : decode cX10_tries 45 = .ok (.iload_n 3, 1) := by decide +kernel
theorem dX10_tries_46 : decode cX10_tries 46 = .ok (.putfield 415, 3) := by decide +kernel
theorem dX10_tries_49 : decode cX10_tries 49 = .ok (.iconst 0, 1) := by decide +kernel
theorem dX10_tries_50 : decode cX10_tries 50 = .ok (.istore 5, 2) := by decide +kernel
theorem dX10_tries_52 : decode cX10_tries 52 = .ok (.iload 5, 2) := by decide +kernel
theorem dX10_tries_54 : decode cX10_tries 54 = .ok (.iload_n 3, 1) := by decide +kernel
theorem dX10_tries_55 : decode cX10_tries 55 = .ok (.if_icmp .ge 23, 3) := by decide +kernel
theorem dX10_tries_58 : decode cX10_tries 58 = .ok (.aload_n 0, 1) := by decide +kernel
theorem dX10_tries_59 : decode cX10_tries 59 = .ok (.getfield 126, 3) := by decide +kernel
theorem dX10_tries_62 : decode cX10_tries 62 = .ok (.iload 5, 2) := by decide +kernel
theorem dX10_tries_64 : decode cX10_tries 64 = .ok (.aload_n 0, 1) := by decide +kernel
theorem dX10_tries_65 : decode cX10_tries 65 = .ok (.getfield 129, 3) := by decide +kernel
theorem dX10_tries_68 : decode cX10_tries 68 = .ok (.iload 5, 2) := by decide +kernel
theorem dX10_tries_70 : decode cX10_tries 70 = .ok (.iaload, 1) := by decide +kernel
theorem dX10_tries_71 : decode cX10_tries 71 = .ok (.iastore, 1) := by decide +kernel
theorem dX10_tries_72 : decode cX10_tries 72 = .ok (.iinc 5 1, 3) := by decide +kernel
theorem dX10_tries_75 : decode cX10_tries 75 = .ok (.goto (-23), 3) := by decide +kernel
theorem dX10_tries_78 : decode cX10_tries 78 = .ok (.return_, 1) := by decide +kernel
theorem dX10_tries_79 : decode cX10_tries 79 = .ok (.iconst 0, 1) := by decide +kernel
theorem dX10_tries_80 : decode cX10_tries 80 = .ok (.istore 5, 2) := by decide +kernel
theorem dX10_tries_82 : decode cX10_tries 82 = .ok (.iload 5, 2) := by decide +kernel
theorem dX10_tries_84 : decode cX10_tries 84 = .ok (.aload_n 0, 1) := by decide +kernel
theorem dX10_tries_85 : decode cX10_tries 85 = .ok (.getfield 16, 3) := by decide +kernel
theorem dX10_tries_88 : decode cX10_tries 88 = .ok (.iconst 0, 1) := by decide +kernel
theorem dX10_tries_89 : decode cX10_tries 89 = .ok (.iaload, 1) := by decide +kernel
theorem dX10_tries_90 : decode cX10_tries 90 = .ok (.if_icmp .ge 89, 3) := by decide +kernel
theorem dX10_tries_93 : decode cX10_tries 93 = .ok (.aload_n 0, 1) := by decide +kernel
theorem dX10_tries_94 : decode cX10_tries 94 = .ok (.iload 5, 2) := by decide +kernel
theorem dX10_tries_96 : decode cX10_tries 96 = .ok (.iload_n 1, 1) := by decide +kernel
theorem dX10_tries_97 : decode cX10_tries 97 = .ok (.invokevirtual 361, 3) := by decide +kernel
theorem dX10_tries_100 : decode cX10_tries 100 = .ok (.istore 6, 2) := by decide +kernel
theorem dX10_tries_102 : decode cX10_tries 102 = .ok (.iload 6, 2) := by decide +kernel
theorem dX10_tries_104 : decode cX10_tries 104 = .ok (.bipush (-2), 2) := by decide +kernel
theorem dX10_tries_106 : decode cX10_tries 106 = .ok (.if_icmp .eq 67, 3) := by decide +kernel
theorem dX10_tries_109 : decode cX10_tries 109 = .ok (.iload 6, 2) := by decide +kernel
theorem dX10_tries_111 : decode cX10_tries 111 = .ok (.ifCond .lt 16, 3) := by decide +kernel
theorem dX10_tries_114 : decode cX10_tries 114 = .ok (.iload_n 2, 1) := by decide +kernel
theorem dX10_tries_115 : decode cX10_tries 115 = .ok (.iload 6, 2) := by decide +kernel
theorem dX10_tries_117 : decode cX10_tries 117 = .ok (.ishr, 1) := by decide +kernel
theorem dX10_tries_118 : decode cX10_tries 118 = .ok (.iconst 1, 1) := by decide +kernel
theorem dX10_tries_119 : decode cX10_tries 119 = .ok (.iand, 1) := by decide +kernel
theorem dX10_tries_120 : decode cX10_tries 120 = .ok (.iconst 1, 1) := by decide +kernel
theorem dX10_tries_121 : decode cX10_tries 121 = .ok (.if_icmp .ne 6, 3) := by decide +kernel
theorem dX10_tries_124 : decode cX10_tries 124 = .ok (.goto 49, 3) := by decide +kernel
theorem dX10_tries_127 : decode cX10_tries 127 = .ok (.aload_n 0, 1) := by decide +kernel
theorem dX10_tries_128 : decode cX10_tries 128 = .ok (.getfield 129, 3) := by decide +kernel
theorem dX10_tries_131 : decode cX10_tries 131 = .ok (.iload_n 3, 1) := by decide +kernel
theorem dX10_tries_132 : decode cX10_tries 132 = .ok (.iload 5, 2) := by decide +kernel
theorem dX10_tries_134 : decode cX10_tries 134 = .ok (.iastore, 1) := by decide +kernel
theorem dX10_tries_135 : decode cX10_tries 135 = .ok (.aload_n 0, 1) := by decide +kernel
theorem dX10_tries_136 : decode cX10_tries 136 = .ok (.iload 6, 2) := by decide +kernel
theorem dX10_tries_138 : decode cX10_tries 138 = .ok (.iload 6, 2) := by decide +kernel
theorem dX10_tries_140 : decode cX10_tries 140 = .ok (.ifCond .ge 7, 3) := by decide +kernel
theorem dX10_tries_143 : decode cX10_tries 143 = .ok (.iload_n 2, 1) := by decide +kernel
theorem dX10_tries_144 : decode cX10_tries 144 = .ok (.goto 9, 3) := by decide +kernel
theorem dX10_tries_147 : decode cX10_tries 147 = .ok (.iload_n 2, 1) := by decide +kernel
theorem dX10_tries_148 : decode cX10_tries 148 = .ok (.iconst 1, 1) := by decide +kernel
theorem dX10_tries_149 : decode cX10_tries 149 = .ok (.iload 6, 2) := by decide +kernel
theorem dX10_tries_151 : decode cX10_tries 151 = .ok (.ishl, 1) := by decide +kernel
theorem dX10_tries_152 : decode cX10_tries 152 = .ok (.ior, 1) := by decide +kernel
theorem dX10_tries_153 : decode cX10_tries 153 = .ok (.iload_n 3, 1) := by decide +kernel
theorem dX10_tries_154 : decode cX10_tries 154 = .ok (.iconst 1, 1) := by decide +kernel
theorem dX10_tries_155 : decode cX10_tries 155 = .ok (.iadd, 1) := by decide +kernel
theorem dX10_tries_156 : decode cX10_tries 156 = .ok (.iload 4, 2) := by decide +kernel
theorem dX10_tries_158 : decode cX10_tries 158 = .ok (.aload_n 0, 1) := by decide +kernel
theorem dX10_tries_159 : decode cX10_tries 159 = .ok (.getfield 108, 3) := by decide +kernel
theorem dX10_tries_162 : decode cX10_tries 162 = .ok (.iload 5, 2) := by decide +kernel
theorem dX10_tries_164 : decode cX10_tries 164 = .ok (.iaload, 1) := by decide +kernel
theorem dX10_tries_165 : decode cX10_tries 165 = .ok (.iconst 4, 1) := by decide +kernel
theorem dX10_tries_166 : decode cX10_tries 166 = .ok (.iadd, 1) := by decide +kernel
theorem dX10_tries_167 : decode cX10_tries 167 = .ok (.iconst 5, 1) := by decide +kernel
theorem dX10_tries_168 : decode cX10_tries 168 = .ok (.idiv, 1) := by decide +kernel
theorem dX10_tries_169 : decode cX10_tries 169 = .ok (.iadd, 1) := by decide +kernel
theorem dX10_tries_170 : decode cX10_tries 170 = .ok (.invokevirtual 418, 3) := by decide +kernel
theorem dX10_tries_173 : decode cX10_tries 173 = .ok (.iinc 5 1, 3) := by decide +kernel
theorem dX10_tries_176 : decode cX10_tries 176 = .ok (.goto (-94), 3) := by decide +kernel
theorem dX10_tries_179 : decode cX10_tries 179 = .ok (.return_, 1) := by decide +kernel
theorem dX10_plan_0 : decode cX10_plan 0 = .ok (.aload_n 0, 1) := by decide +kernel
theorem dX10_plan_1 : decode cX10_plan 1 = .ok (.iconst 0, 1) := by decide +kernel
theorem dX10_plan_2 : decode cX10_plan 2 = .ok (.putfield 135, 3) := by decide +kernel
theorem dX10_plan_5 : decode cX10_plan 5 = .ok (.aload_n 0, 1) := by decide +kernel
theorem dX10_plan_6 : decode cX10_plan 6 = .ok (.iload_n 1, 1) := by decide +kernel
theorem dX10_plan_7 : decode cX10_plan 7 = .ok (.invokevirtual 358, 3) := by decide +kernel
theorem dX10_plan_10 : decode cX10_plan 10 = .ok (.ifCond .eq 13, 3) := by decide +kernel
theorem dX10_plan_13 : decode cX10_plan 13 = .ok (.iload_n 2, 1) := by decide +kernel
theorem dX10_plan_14 : decode cX10_plan 14 = .ok (.iconst 0, 1) := by decide +kernel
theorem dX10_plan_15 : decode cX10_plan 15 = .ok (.bipush 9, 2) := by decide +kernel
theorem dX10_plan_17 : decode cX10_plan 17 = .ok (.invokestatic 263, 3) := by decide +kernel
theorem dX10_plan_20 : decode cX10_plan 20 = .ok (.ifCond .ne 5, 3) := by decide +kernel
theorem dX10_plan_23 : decode cX10_plan 23 = .ok (.iconst (-1), 1) := by decide +kernel
theorem dX10_plan_24 : decode cX10_plan 24 = .ok (.ireturn, 1) := by decide +kernel
theorem dX10_plan_25 : decode cX10_plan 25 = .ok (.aload_n 0, 1) := by decide +kernel
theorem dX10_plan_26 : decode cX10_plan 26 = .ok (.iconst (-1), 1) := by decide +kernel
theorem dX10_plan_27 : decode cX10_plan 27 = .ok (.putfield 412, 3) := by decide +kernel
theorem dX10_plan_30 : decode cX10_plan 30 = .ok (.aload_n 0, 1) := by decide +kernel
theorem dX10_plan_31 : decode cX10_plan 31 = .ok (.aload_n 0, 1) := by decide +kernel
theorem dX10_plan_32 : decode cX10_plan 32 = .ok (.getfield 108, 3) := by decide +kernel
theorem dX10_plan_35 : decode cX10_plan 35 = .ok (.bipush 68, 2) := by decide +kernel
theorem dX10_plan_37 : decode cX10_plan 37 = .ok (.iload_n 1, 1) := by decide +kernel
theorem dX10_plan_38 : decode cX10_plan 38 = .ok (.iadd, 1) := by decide +kernel
theorem dX10_plan_39 : decode cX10_plan 39 = .ok (.iaload, 1) := by decide +kernel
theorem dX10_plan_40 : decode cX10_plan 40 = .ok (.iconst 1, 1) := by decide +kernel
theorem dX10_plan_41 : decode cX10_plan 41 = .ok (.aload_n 0, 1) := by decide +kernel
theorem dX10_plan_42 : decode cX10_plan 42 = .ok (.getfield 108, 3) := by decide +kernel
theorem dX10_plan_45 : decode cX10_plan 45 = .ok (.bipush 68, 2) := by decide +kernel
theorem dX10_plan_47 : decode cX10_plan 47 = .ok (.iload_n 1, 1) := by decide +kernel
theorem dX10_plan_48 : decode cX10_plan 48 = .ok (.iadd, 1) := by decide +kernel
theorem dX10_plan_49 : decode cX10_plan 49 = .ok (.iaload, 1) := by decide +kernel
theorem dX10_plan_50 : decode cX10_plan 50 = .ok (.ishl, 1) := by decide +kernel
theorem dX10_plan_51 : decode cX10_plan 51 = .ok (.iconst 0, 1) := by decide +kernel
theorem dX10_plan_52 : decode cX10_plan 52 = .ok (.iconst 0, 1) := by decide +kernel
theorem dX10_plan_53 : decode cX10_plan 53 = .ok (.invokevirtual 418, 3) := by decide +kernel
theorem dX10_plan_56 : decode cX10_plan 56 = .ok (.aload_n 0, 1) := by decide +kernel
theorem dX10_plan_57 : decode cX10_plan 57 = .ok (.getfield 412, 3) := by decide +kernel
theorem dX10_plan_60 : decode cX10_plan 60 = .ok (.ifCond .ge 5, 3) := by decide +kernel
theorem dX10_plan_63 : decode cX10_plan 63 = .ok (.iconst (-1), 1) := by decide +kernel
theorem dX10_plan_64 : decode cX10_plan 64 = .ok (.ireturn, 1) := by decide +kernel
theorem dX10_plan_65 : decode cX10_plan 65 = .ok (.iload_n 2, 1) := by decide +kernel
theorem dX10_plan_66 : decode cX10_plan 66 = .ok (.ifCond .ne 10, 3) := by decide +kernel
theorem dX10_plan_69 : decode cX10_plan 69 = .ok (.aload_n 0, 1) := by decide +kernel
theorem dX10_plan_70 : decode cX10_plan 70 = .ok (.getfield 412, 3) := by decide +kernel
theorem dX10_plan_73 : decode cX10_plan 73 = .ok (.goto 37, 3) := by decide +kernel
theorem dX10_plan_76 : decode cX10_plan 76 = .ok (.iload_n 2, 1) := by decide +kernel
theorem dX10_plan_77 : decode cX10_plan 77 = .ok (.iconst 1, 1) := by decide +kernel
theorem dX10_plan_78 : decode cX10_plan 78 = .ok (.if_icmp .ne 10, 3) := by decide +kernel
theorem dX10_plan_81 : decode cX10_plan 81 = .ok (.aload_n 0, 1) := by decide +kernel
theorem dX10_plan_82 : decode cX10_plan 82 = .ok (.getfield 415, 3) := by decide +kernel
theorem dX10_plan_85 : decode cX10_plan 85 = .ok (.goto 25, 3) := by decide +kernel
theorem dX10_plan_88 : decode cX10_plan 88 = .ok (.iload_n 2, 1) := by decide +kernel
theorem dX10_plan_89 : decode cX10_plan 89 = .ok (.iconst 2, 1) := by decide +kernel
theorem dX10_plan_90 : decode cX10_plan 90 = .ok (.isub, 1) := by decide +kernel
theorem dX10_plan_91 : decode cX10_plan 91 = .ok (.aload_n 0, 1) := by decide +kernel
theorem dX10_plan_92 : decode cX10_plan 92 = .ok (.getfield 415, 3) := by decide +kernel
theorem dX10_plan_95 : decode cX10_plan 95 = .ok (.if_icmp .ge 14, 3) := by decide +kernel
theorem dX10_plan_98 : decode cX10_plan 98 = .ok (.aload_n 0, 1) := by decide +kernel
theorem dX10_plan_99 : decode cX10_plan 99 = .ok (.getfield 126, 3) := by decide +kernel
theorem dX10_plan_102 : decode cX10_plan 102 = .ok (.iload_n 2, 1) := by decide +kernel
theorem dX10_plan_103 : decode cX10_plan 103 = .ok (.iconst 2, 1) := by decide +kernel
theorem dX10_plan_104 : decode cX10_plan 104 = .ok (.isub, 1) := by decide +kernel
theorem dX10_plan_105 : decode cX10_plan 105 = .ok (.iaload, 1) := by decide +kernel
theorem dX10_plan_106 : decode cX10_plan 106 = .ok (.goto 4, 3) := by decide +kernel
theorem dX10_plan_109 : decode cX10_plan 109 = .ok (.iconst (-1), 1) := by decide +kernel
theorem dX10_plan_110 : decode cX10_plan 110 = .ok (.ireturn, 1) := by decide +kernel
theorem dX10_escape_0 : decode cX10_escape 0 = .ok (.aload_n 0, 1) := by decide +kernel
theorem dX10_escape_1 : decode cX10_escape 1 = .ok (.iconst 0, 1) := by decide +kernel
theorem dX10_escape_2 : decode cX10_escape 2 = .ok (.putfield 135, 3) := by decide +kernel
theorem dX10_escape_5 : decode cX10_escape 5 = .ok (.aload_n 0, 1) := by decide +kernel
theorem dX10_escape_6 : decode cX10_escape 6 = .ok (.iload_n 1, 1) := by decide +kernel
theorem dX10_escape_7 : decode cX10_escape 7 = .ok (.invokevirtual 358, 3) := by decide +kernel
theorem dX10_escape_10 : decode cX10_escape 10 = .ok (.ifCond .eq 10, 3) := by decide +kernel
theorem dX10_escape_13 : decode cX10_escape 13 = .ok (.iload_n 2, 1) := by decide +kernel
theorem dX10_escape_14 : decode cX10_escape 14 = .ok (.invokestatic 400, 3) := by decide +kernel
theorem dX10_escape_17 : decode cX10_escape 17 = .ok (.ifCond .ne 5, 3) := by decide +kernel
theorem dX10_escape_20 : decode cX10_escape 20 = .ok (.iconst (-1), 1) := by decide +kernel
theorem dX10_escape_21 : decode cX10_escape 21 = .ok (.ireturn, 1) := by decide +kernel
theorem dX10_escape_22 : decode cX10_escape 22 = .ok (.aload_n 0, 1) := by decide +kernel
theorem dX10_escape_23 : decode cX10_escape 23 = .ok (.getfield 108, 3) := by decide +kernel
theorem dX10_escape_26 : decode cX10_escape 26 = .ok (.iconst 0, 1) := by decide +kernel
theorem dX10_escape_27 : decode cX10_escape 27 = .ok (.aload_n 0, 1) := by decide +kernel
theorem dX10_escape_28 : decode cX10_escape 28 = .ok (.getfield 111, 3) := by decide +kernel
theorem dX10_escape_31 : decode cX10_escape 31 = .ok (.iconst 0, 1) := by decide +kernel
theorem dX10_escape_32 : decode cX10_escape 32 = .ok (.invokestatic 396, 3) := by decide +kernel
theorem dX10_escape_35 : decode cX10_escape 35 = .ok (.iconst (-1), 1) := by decide +kernel
theorem dX10_escape_36 : decode cX10_escape 36 = .ok (.istore_n 3, 1) := by decide +kernel
theorem dX10_escape_37 : decode cX10_escape 37 = .ok (.iconst 1, 1) := by decide +kernel
theorem dX10_escape_38 : decode cX10_escape 38 = .ok (.istore 4, 2) := by decide +kernel
theorem dX10_escape_40 : decode cX10_escape 40 = .ok (.iload 4, 2) := by decide +kernel
theorem dX10_escape_42 : decode cX10_escape 42 = .ok (.iload_n 2, 1) := by decide +kernel
theorem dX10_escape_43 : decode cX10_escape 43 = .ok (.if_icmp .gt 37, 3) := by decide +kernel
theorem dX10_escape_46 : decode cX10_escape 46 = .ok (.iload_n 3, 1) := by decide +kernel
theorem dX10_escape_47 : decode cX10_escape 47 = .ok (.ifCond .ge 33, 3) := by decide +kernel
theorem dX10_escape_50 : decode cX10_escape 50 = .ok (.aload_n 0, 1) := by decide +kernel
theorem dX10_escape_51 : decode cX10_escape 51 = .ok (.iconst 0, 1) := by decide +kernel
theorem dX10_escape_52 : decode cX10_escape 52 = .ok (.invokevirtual 393, 3) := by decide +kernel
theorem dX10_escape_55 : decode cX10_escape 55 = .ok (.aload_n 0, 1) := by decide +kernel
theorem dX10_escape_56 : decode cX10_escape 56 = .ok (.getfield 108, 3) := by decide +kernel
theorem dX10_escape_59 : decode cX10_escape 59 = .ok (.bipush 68, 2) := by decide +kernel
theorem dX10_escape_61 : decode cX10_escape 61 = .ok (.iload_n 1, 1) := by decide +kernel
theorem dX10_escape_62 : decode cX10_escape 62 = .ok (.iadd, 1) := by decide +kernel
theorem dX10_escape_63 : decode cX10_escape 63 = .ok (.iaload, 1) := by decide +kernel
theorem dX10_escape_64 : decode cX10_escape 64 = .ok (.ifCond .ge 8, 3) := by decide +kernel
theorem dX10_escape_67 : decode cX10_escape 67 = .ok (.iload 4, 2) := by decide +kernel
theorem dX10_escape_69 : decode cX10_escape 69 = .ok (.goto 4, 3) := by decide +kernel
theorem dX10_escape_72 : decode cX10_escape 72 = .ok (.iload_n 3, 1) := by decide +kernel
theorem dX10_escape_73 : decode cX10_escape 73 = .ok (.istore_n 3, 1) := by decide +kernel
theorem dX10_escape_74 : decode cX10_escape 74 = .ok (.iinc 4 1, 3) := by decide +kernel
theorem dX10_escape_77 : decode cX10_escape 77 = .ok (.goto (-37), 3) := by decide +kernel
theorem dX10_escape_80 : decode cX10_escape 80 = .ok (.aload_n 0, 1) := by decide +kernel
theorem dX10_escape_81 : decode cX10_escape 81 = .ok (.getfield 111, 3) := by decide +kernel
theorem dX10_escape_84 : decode cX10_escape 84 = .ok (.iconst 0, 1) := by decide +kernel
theorem dX10_escape_85 : decode cX10_escape 85 = .ok (.aload_n 0, 1) := by decide +kernel
theorem dX10_escape_86 : decode cX10_escape 86 = .ok (.getfield 108, 3) := by decide +kernel
theorem dX10_escape_89 : decode cX10_escape 89 = .ok (.iconst 0, 1) := by decide +kernel
theorem dX10_escape_90 : decode cX10_escape 90 = .ok (.invokestatic 396, 3) := by decide +kernel
theorem dX10_escape_93 : decode cX10_escape 93 = .ok (.iload_n 3, 1) := by decide +kernel
theorem dX10_escape_94 : decode cX10_escape 94 = .ok (.ireturn, 1) := by decide +kernel
theorem dX10_salted_0 : decode cX10_salted 0 = .ok (.aload_n 0, 1) := by decide +kernel
theorem dX10_salted_1 : decode cX10_salted 1 = .ok (.iconst 0, 1) := by decide +kernel
theorem dX10_salted_2 : decode cX10_salted 2 = .ok (.putfield 135, 3) := by decide +kernel
theorem dX10_salted_5 : decode cX10_salted 5 = .ok (.iload_n 1, 1) := by decide +kernel
theorem dX10_salted_6 : decode cX10_salted 6 = .ok (.iconst 1, 1) := by decide +kernel
theorem dX10_salted_7 : decode cX10_salted 7 = .ok (.bipush 99, 2) := by decide +kernel
theorem dX10_salted_9 : decode cX10_salted 9 = .ok (.invokestatic 263, 3) := by decide +kernel
theorem dX10_salted_12 : decode cX10_salted 12 = .ok (.ifCond .ne 5, 3) := by decide +kernel
theorem dX10_salted_15 : decode cX10_salted 15 = .ok (.iconst (-1), 1) := by decide +kernel
theorem dX10_salted_16 : decode cX10_salted 16 = .ok (.ireturn, 1) := by decide +kernel
theorem dX10_salted_17 : decode cX10_salted 17 = .ok (.iconst 0, 1) := by decide +kernel
theorem dX10_salted_18 : decode cX10_salted 18 = .ok (.istore_n 2, 1) := by decide +kernel
theorem dX10_salted_19 : decode cX10_salted 19 = .ok (.iconst 0, 1) := by decide +kernel
theorem dX10_salted_20 : decode cX10_salted 20 = .ok (.istore_n 3, 1) := by decide +kernel
theorem dX10_salted_21 : decode cX10_salted 21 = .ok (.iload_n 3, 1) := by decide +kernel
theorem dX10_salted_22 : decode cX10_salted 22 = .ok (.aload_n 0, 1) := by decide +kernel
theorem dX10_salted_23 : decode cX10_salted 23 = .ok (.getfield 16, 3) := by decide +kernel
theorem dX10_salted_26 : decode cX10_salted 26 = .ok (.iconst 0, 1) := by decide +kernel
theorem dX10_salted_27 : decode cX10_salted 27 = .ok (.iaload, 1) := by decide +kernel
theorem dX10_salted_28 : decode cX10_salted 28 = .ok (.if_icmp .ge 39, 3) := by decide +kernel
theorem dX10_salted_31 : decode cX10_salted 31 = .ok (.iload_n 2, 1) := by decide +kernel
theorem dX10_salted_32 : decode cX10_salted 32 = .ok (.aload_n 0, 1) := by decide +kernel
theorem dX10_salted_33 : decode cX10_salted 33 = .ok (.getfield 108, 3) := by decide +kernel
theorem dX10_salted_36 : decode cX10_salted 36 = .ok (.bipush 30, 2) := by decide +kernel
theorem dX10_salted_38 : decode cX10_salted 38 = .ok (.iload_n 3, 1) := by decide +kernel
theorem dX10_salted_39 : decode cX10_salted 39 = .ok (.iadd, 1) := by decide +kernel
theorem dX10_salted_40 : decode cX10_salted 40 = .ok (.iaload, 1) := by decide +kernel
theorem dX10_salted_41 : decode cX10_salted 41 = .ok (.aload_n 0, 1) := by decide +kernel
theorem dX10_salted_42 : decode cX10_salted 42 = .ok (.getfield 108, 3) := by decide +kernel
theorem dX10_salted_45 : decode cX10_salted 45 = .ok (.iload_n 3, 1) := by decide +kernel
theorem dX10_salted_46 : decode cX10_salted 46 = .ok (.iaload, 1) := by decide +kernel
theorem dX10_salted_47 : decode cX10_salted 47 = .ok (.isub, 1) := by decide +kernel
theorem dX10_salted_48 : decode cX10_salted 48 = .ok (.iload_n 1, 1) := by decide +kernel
theorem dX10_salted_49 : decode cX10_salted 49 = .ok (.if_icmp .lt 9, 3) := by decide +kernel
theorem dX10_salted_52 : decode cX10_salted 52 = .ok (.iconst 1, 1) := by decide +kernel
theorem dX10_salted_53 : decode cX10_salted 53 = .ok (.iload_n 3, 1) := by decide +kernel
theorem dX10_salted_54 : decode cX10_salted 54 = .ok (.ishl, 1) := by decide +kernel
theorem dX10_salted_55 : decode cX10_salted 55 = .ok (.goto 4, 3) := by decide +kernel
theorem dX10_salted_58 : decode cX10_salted 58 = .ok (.iconst 0, 1) := by decide +kernel
theorem dX10_salted_59 : decode cX10_salted 59 = .ok (.ior, 1) := by decide +kernel
theorem dX10_salted_60 : decode cX10_salted 60 = .ok (.istore_n 2, 1) := by decide +kernel
theorem dX10_salted_61 : decode cX10_salted 61 = .ok (.iinc 3 1, 3) := by decide +kernel
theorem dX10_salted_64 : decode cX10_salted 64 = .ok (.goto (-43), 3) := by decide +kernel
theorem dX10_salted_67 : decode cX10_salted 67 = .ok (.iload_n 2, 1) := by decide +kernel
theorem dX10_salted_68 : decode cX10_salted 68 = .ok (.ireturn, 1) := by decide +kernel
theorem dX10_beside_0 : decode cX10_beside 0 = .ok (.aload_n 0, 1) := by decide +kernel
theorem dX10_beside_1 : decode cX10_beside 1 = .ok (.iconst 0, 1) := by decide +kernel
theorem dX10_beside_2 : decode cX10_beside 2 = .ok (.putfield 135, 3) := by decide +kernel
theorem dX10_beside_5 : decode cX10_beside 5 = .ok (.aload_n 0, 1) := by decide +kernel
theorem dX10_beside_6 : decode cX10_beside 6 = .ok (.iload_n 1, 1) := by decide +kernel
theorem dX10_beside_7 : decode cX10_beside 7 = .ok (.invokevirtual 337, 3) := by decide +kernel
theorem dX10_beside_10 : decode cX10_beside 10 = .ok (.ifCond .eq 17, 3) := by decide +kernel
theorem dX10_beside_13 : decode cX10_beside 13 = .ok (.aload_n 0, 1) := by decide +kernel
theorem dX10_beside_14 : decode cX10_beside 14 = .ok (.getfield 108, 3) := by decide +kernel
theorem dX10_beside_17 : decode cX10_beside 17 = .ok (.bipush 50, 2) := by decide +kernel
theorem dX10_beside_19 : decode cX10_beside 19 = .ok (.iload_n 1, 1) := by decide +kernel
theorem dX10_beside_20 : decode cX10_beside 20 = .ok (.iadd, 1) := by decide +kernel
theorem dX10_beside_21 : decode cX10_beside 21 = .ok (.iaload, 1) := by decide +kernel
theorem dX10_beside_22 : decode cX10_beside 22 = .ok (.iconst 1, 1) := by decide +kernel
theorem dX10_beside_23 : decode cX10_beside 23 = .ok (.isub, 1) := by decide +kernel
theorem dX10_beside_24 : decode cX10_beside 24 = .ok (.goto 4, 3) := by decide +kernel
theorem dX10_beside_27 : decode cX10_beside 27 = .ok (.iconst (-1), 1) := by decide +kernel
theorem dX10_beside_28 : decode cX10_beside 28 = .ok (.ireturn, 1) := by decide +kernel
theorem dX10_thaw_0 : decode cX10_thaw 0 = .ok (.aload_n 0, 1) := by decide +kernel
theorem dX10_thaw_1 : decode cX10_thaw 1 = .ok (.iconst 0, 1) := by decide +kernel
theorem dX10_thaw_2 : decode cX10_thaw 2 = .ok (.putfield 135, 3) := by decide +kernel
theorem dX10_thaw_5 : decode cX10_thaw 5 = .ok (.iload_n 1, 1) := by decide +kernel
theorem dX10_thaw_6 : decode cX10_thaw 6 = .ok (.invokestatic 400, 3) := by decide +kernel
theorem dX10_thaw_9 : decode cX10_thaw 9 = .ok (.ifCond .ne 5, 3) := by decide +kernel
theorem dX10_thaw_12 : decode cX10_thaw 12 = .ok (.iconst (-1), 1) := by decide +kernel
theorem dX10_thaw_13 : decode cX10_thaw 13 = .ok (.ireturn, 1) := by decide +kernel
theorem dX10_thaw_14 : decode cX10_thaw 14 = .ok (.iconst 0, 1) := by decide +kernel
theorem dX10_thaw_15 : decode cX10_thaw 15 = .ok (.istore_n 2, 1) := by decide +kernel
theorem dX10_thaw_16 : decode cX10_thaw 16 = .ok (.iload_n 2, 1) := by decide +kernel
theorem dX10_thaw_17 : decode cX10_thaw 17 = .ok (.iload_n 1, 1) := by decide +kernel
theorem dX10_thaw_18 : decode cX10_thaw 18 = .ok (.if_icmp .gt 28, 3) := by decide +kernel
theorem dX10_thaw_21 : decode cX10_thaw 21 = .ok (.aload_n 0, 1) := by decide +kernel
theorem dX10_thaw_22 : decode cX10_thaw 22 = .ok (.aload_n 0, 1) := by decide +kernel
theorem dX10_thaw_23 : decode cX10_thaw 23 = .ok (.getfield 108, 3) := by decide +kernel
theorem dX10_thaw_26 : decode cX10_thaw 26 = .ok (.bipush 80, 2) := by decide +kernel
theorem dX10_thaw_28 : decode cX10_thaw 28 = .ok (.iaload, 1) := by decide +kernel
theorem dX10_thaw_29 : decode cX10_thaw 29 = .ok (.iload_n 2, 1) := by decide +kernel
theorem dX10_thaw_30 : decode cX10_thaw 30 = .ok (.iadd, 1) := by decide +kernel
theorem dX10_thaw_31 : decode cX10_thaw 31 = .ok (.iconst 0, 1) := by decide +kernel
theorem dX10_thaw_32 : decode cX10_thaw 32 = .ok (.invokevirtual 347, 3) := by decide +kernel
theorem dX10_thaw_35 : decode cX10_thaw 35 = .ok (.ifCond .lt 5, 3) := by decide +kernel
theorem dX10_thaw_38 : decode cX10_thaw 38 = .ok (.iload_n 2, 1) := by decide +kernel
theorem dX10_thaw_39 : decode cX10_thaw 39 = .ok (.ireturn, 1) := by decide +kernel
theorem dX10_thaw_40 : decode cX10_thaw 40 = .ok (.iinc 2 1, 3) := by decide +kernel
theorem dX10_thaw_43 : decode cX10_thaw 43 = .ok (.goto (-27), 3) := by decide +kernel
theorem dX10_thaw_46 : decode cX10_thaw 46 = .ok (.iconst (-1), 1) := by decide +kernel
theorem dX10_thaw_47 : decode cX10_thaw 47 = .ok (.ireturn, 1) := by decide +kernel
theorem dX10_held_0 : decode cX10_held 0 = .ok (.iconst 0, 1) := by decide +kernel
theorem dX10_held_1 : decode cX10_held 1 = .ok (.istore_n 1, 1) := by decide +kernel
theorem dX10_held_2 : decode cX10_held 2 = .ok (.iconst 0, 1) := by decide +kernel
theorem dX10_held_3 : decode cX10_held 3 = .ok (.istore_n 2, 1) := by decide +kernel
theorem dX10_held_4 : decode cX10_held 4 = .ok (.iload_n 2, 1) := by decide +kernel
theorem dX10_held_5 : decode cX10_held 5 = .ok (.aload_n 0, 1) := by decide +kernel
theorem dX10_held_6 : decode cX10_held 6 = .ok (.getfield 19, 3) := by decide +kernel
theorem dX10_held_9 : decode cX10_held 9 = .ok (.iconst 0, 1) := by decide +kernel
theorem dX10_held_10 : decode cX10_held 10 = .ok (.iaload, 1) := by decide +kernel
theorem dX10_held_11 : decode cX10_held 11 = .ok (.if_icmp .ge 29, 3) := by decide +kernel
theorem dX10_held_14 : decode cX10_held 14 = .ok (.iload_n 1, 1) := by decide +kernel
theorem dX10_held_15 : decode cX10_held 15 = .ok (.aload_n 0, 1) := by decide +kernel
theorem dX10_held_16 : decode cX10_held 16 = .ok (.getfield 108, 3) := by decide +kernel
theorem dX10_held_19 : decode cX10_held 19 = .ok (.bipush 68, 2) := by decide +kernel
theorem dX10_held_21 : decode cX10_held 21 = .ok (.iload_n 2, 1) := by decide +kernel
theorem dX10_held_22 : decode cX10_held 22 = .ok (.iadd, 1) := by decide +kernel
theorem dX10_held_23 : decode cX10_held 23 = .ok (.iaload, 1) := by decide +kernel
theorem dX10_held_24 : decode cX10_held 24 = .ok (.ifCond .lt 7, 3) := by decide +kernel
theorem dX10_held_27 : decode cX10_held 27 = .ok (.iconst 1, 1) := by decide +kernel
theorem dX10_held_28 : decode cX10_held 28 = .ok (.goto 4, 3) := by decide +kernel
theorem dX10_held_31 : decode cX10_held 31 = .ok (.iconst 0, 1) := by decide +kernel
theorem dX10_held_32 : decode cX10_held 32 = .ok (.iadd, 1) := by decide +kernel
theorem dX10_held_33 : decode cX10_held 33 = .ok (.istore_n 1, 1) := by decide +kernel
theorem dX10_held_34 : decode cX10_held 34 = .ok (.iinc 2 1, 3) := by decide +kernel
theorem dX10_held_37 : decode cX10_held 37 = .ok (.goto (-33), 3) := by decide +kernel
theorem dX10_held_40 : decode cX10_held 40 = .ok (.iload_n 1, 1) := by decide +kernel
theorem dX10_held_41 : decode cX10_held 41 = .ok (.ireturn, 1) := by decide +kernel
theorem dX10_amnesty_0 : decode cX10_amnesty 0 = .ok (.aload_n 0, 1) := by decide +kernel
theorem dX10_amnesty_1 : decode cX10_amnesty 1 = .ok (.iconst 0, 1) := by decide +kernel
theorem dX10_amnesty_2 : decode cX10_amnesty 2 = .ok (.putfield 135, 3) := by decide +kernel
theorem dX10_amnesty_5 : decode cX10_amnesty 5 = .ok (.aload_n 0, 1) := by decide +kernel
theorem dX10_amnesty_6 : decode cX10_amnesty 6 = .ok (.invokevirtual 422, 3) := by decide +kernel
theorem dX10_amnesty_9 : decode cX10_amnesty 9 = .ok (.istore_n 3, 1) := by decide +kernel
theorem dX10_amnesty_10 : decode cX10_amnesty 10 = .ok (.iload_n 3, 1) := by decide +kernel
theorem dX10_amnesty_11 : decode cX10_amnesty 11 = .ok (.ifCond .eq 21, 3) := by decide +kernel
theorem dX10_amnesty_14 : decode cX10_amnesty 14 = .ok (.iload_n 1, 1) := by decide +kernel
theorem dX10_amnesty_15 : decode cX10_amnesty 15 = .ok (.iconst 0, 1) := by decide +kernel
theorem dX10_amnesty_16 : decode cX10_amnesty 16 = .ok (.iload_n 3, 1) := by decide +kernel
theorem dX10_amnesty_17 : decode cX10_amnesty 17 = .ok (.invokestatic 263, 3) := by decide +kernel
theorem dX10_amnesty_20 : decode cX10_amnesty 20 = .ok (.ifCond .eq 12, 3) := by decide +kernel
theorem dX10_amnesty_23 : decode cX10_amnesty 23 = .ok (.iload_n 2, 1) := by decide +kernel
theorem dX10_amnesty_24 : decode cX10_amnesty 24 = .ok (.iconst 0, 1) := by decide +kernel
theorem dX10_amnesty_25 : decode cX10_amnesty 25 = .ok (.iconst 1, 1) := by decide +kernel
theorem dX10_amnesty_26 : decode cX10_amnesty 26 = .ok (.invokestatic 263, 3) := by decide +kernel
theorem dX10_amnesty_29 : decode cX10_amnesty 29 = .ok (.ifCond .ne 5, 3) := by decide +kernel
theorem dX10_amnesty_32 : decode cX10_amnesty 32 = .ok (.iconst (-1), 1) := by decide +kernel
theorem dX10_amnesty_33 : decode cX10_amnesty 33 = .ok (.ireturn, 1) := by decide +kernel
theorem dX10_amnesty_34 : decode cX10_amnesty 34 = .ok (.iload_n 2, 1) := by decide +kernel
theorem dX10_amnesty_35 : decode cX10_amnesty 35 = .ok (.ifCond .ne 7, 3) := by decide +kernel
theorem dX10_amnesty_38 : decode cX10_amnesty 38 = .ok (.iload_n 1, 1) := by decide +kernel
theorem dX10_amnesty_39 : decode cX10_amnesty 39 = .ok (.goto 4, 3) := by decide +kernel
theorem dX10_amnesty_42 : decode cX10_amnesty 42 = .ok (.iload_n 3, 1) := by decide +kernel
theorem dX10_amnesty_43 : decode cX10_amnesty 43 = .ok (.iload_n 1, 1) := by decide +kernel
theorem dX10_amnesty_44 : decode cX10_amnesty 44 = .ok (.iload_n 3, 1) := by decide +kernel
theorem dX10_amnesty_45 : decode cX10_amnesty 45 = .ok (.invokestatic 425, 3) := by decide +kernel
theorem dX10_amnesty_48 : decode cX10_amnesty 48 = .ok (.idiv, 1) := by decide +kernel
theorem dX10_amnesty_49 : decode cX10_amnesty 49 = .ok (.ireturn, 1) := by decide +kernel
theorem dX10_draws_0 : decode cX10_draws 0 = .ok (.aload_n 0, 1) := by decide +kernel
theorem dX10_draws_1 : decode cX10_draws 1 = .ok (.aload_n 0, 1) := by decide +kernel
theorem dX10_draws_2 : decode cX10_draws 2 = .ok (.getfield 428, 3) := by decide +kernel
theorem dX10_draws_5 : decode cX10_draws 5 = .ok (.ldc2_w 431, 3) := by decide +kernel
theorem dX10_draws_8 : decode cX10_draws 8 = .ok (.lmul, 1) := by decide +kernel
theorem dX10_draws_9 : decode cX10_draws 9 = .ok (.ldc2_w 433, 3) := by decide +kernel
theorem dX10_draws_12 : decode cX10_draws 12 = .ok (.ladd, 1) := by decide +kernel
theorem dX10_draws_13 : decode cX10_draws 13 = .ok (.ldc2_w 435, 3) := by decide +kernel
theorem dX10_draws_16 : decode cX10_draws 16 = .ok (.lrem, 1) := by decide +kernel
theorem dX10_draws_17 : decode cX10_draws 17 = .ok (.putfield 428, 3) := by decide +kernel
theorem dX10_draws_20 : decode cX10_draws 20 = .ok (.aload_n 0, 1) := by decide +kernel
theorem dX10_draws_21 : decode cX10_draws 21 = .ok (.getfield 428, 3) := by decide +kernel
theorem dX10_draws_24 : decode cX10_draws 24 = .ok (.ldc2_w 437, 3) := by decide +kernel
theorem dX10_draws_27 : decode cX10_draws 27 = .ok (.ldiv, 1) := by decide +kernel
theorem dX10_draws_28 : decode cX10_draws 28 = .ok (.iload_n 1, 1) := by decide +kernel
theorem dX10_draws_29 : decode cX10_draws 29 = .ok (.i2l, 1) := by decide +kernel
theorem dX10_draws_30 : decode cX10_draws 30 = .ok (.lrem, 1) := by decide +kernel
theorem dX10_draws_31 : decode cX10_draws 31 = .ok (.l2i, 1) := by decide +kernel
theorem dX10_draws_32 : decode cX10_draws 32 = .ok (.ireturn, 1) := by decide +kernel
theorem dX10_lots_0 : decode cX10_lots 0 = .ok (.aload_n 0, 1) := by decide +kernel
theorem dX10_lots_1 : decode cX10_lots 1 = .ok (.iconst 0, 1) := by decide +kernel
theorem dX10_lots_2 : decode cX10_lots 2 = .ok (.putfield 135, 3) := by decide +kernel
theorem dX10_lots_5 : decode cX10_lots 5 = .ok (.iload_n 1, 1) := by decide +kernel
theorem dX10_lots_6 : decode cX10_lots 6 = .ok (.iconst 0, 1) := by decide +kernel
theorem dX10_lots_7 : decode cX10_lots 7 = .ok (.sipush 9999, 3) := by decide +kernel
theorem dX10_lots_10 : decode cX10_lots 10 = .ok (.invokestatic 263, 3) := by decide +kernel
theorem dX10_lots_13 : decode cX10_lots 13 = .ok (.ifCond .eq 33, 3) := by decide +kernel
theorem dX10_lots_16 : decode cX10_lots 16 = .ok (.iload_n 2, 1) := by decide +kernel
theorem dX10_lots_17 : decode cX10_lots 17 = .ok (.iconst 1, 1) := by decide +kernel
theorem dX10_lots_18 : decode cX10_lots 18 = .ok (.bipush 20, 2) := by decide +kernel
theorem dX10_lots_20 : decode cX10_lots 20 = .ok (.invokestatic 263, 3) := by decide +kernel
theorem dX10_lots_23 : decode cX10_lots 23 = .ok (.ifCond .eq 23, 3) := by decide +kernel
theorem dX10_lots_26 : decode cX10_lots 26 = .ok (.iload_n 3, 1) := by decide +kernel
theorem dX10_lots_27 : decode cX10_lots 27 = .ok (.iconst 1, 1) := by decide +kernel
theorem dX10_lots_28 : decode cX10_lots 28 = .ok (.bipush 120, 2) := by decide +kernel
theorem dX10_lots_30 : decode cX10_lots 30 = .ok (.invokestatic 263, 3) := by decide +kernel
theorem dX10_lots_33 : decode cX10_lots 33 = .ok (.ifCond .eq 13, 3) := by decide +kernel
theorem dX10_lots_36 : decode cX10_lots 36 = .ok (.iload 4, 2) := by decide +kernel
theorem dX10_lots_38 : decode cX10_lots 38 = .ok (.iconst 0, 1) := by decide +kernel
theorem dX10_lots_39 : decode cX10_lots 39 = .ok (.iconst 1, 1) := by decide +kernel
theorem dX10_lots_40 : decode cX10_lots 40 = .ok (.invokestatic 263, 3) := by decide +kernel
theorem dX10_lots_43 : decode cX10_lots 43 = .ok (.ifCond .ne 5, 3) := by decide +kernel
theorem dX10_lots_46 : decode cX10_lots 46 = .ok (.iconst (-1), 1) := by decide +kernel
theorem dX10_lots_47 : decode cX10_lots 47 = .ok (.ireturn, 1) := by decide +kernel
theorem dX10_lots_48 : decode cX10_lots 48 = .ok (.aload_n 0, 1) := by decide +kernel
theorem dX10_lots_49 : decode cX10_lots 49 = .ok (.iload_n 1, 1) := by decide +kernel
theorem dX10_lots_50 : decode cX10_lots 50 = .ok (.i2l, 1) := by decide +kernel
theorem dX10_lots_51 : decode cX10_lots 51 = .ok (.putfield 428, 3) := by decide +kernel
theorem dX10_lots_54 : decode cX10_lots 54 = .ok (.aload_n 0, 1) := by decide +kernel
theorem dX10_lots_55 : decode cX10_lots 55 = .ok (.getfield 108, 3) := by decide +kernel
theorem dX10_lots_58 : decode cX10_lots 58 = .ok (.iconst 0, 1) := by decide +kernel
theorem dX10_lots_59 : decode cX10_lots 59 = .ok (.aload_n 0, 1) := by decide +kernel
theorem dX10_lots_60 : decode cX10_lots 60 = .ok (.getfield 111, 3) := by decide +kernel
theorem dX10_lots_63 : decode cX10_lots 63 = .ok (.iconst 0, 1) := by decide +kernel
theorem dX10_lots_64 : decode cX10_lots 64 = .ok (.invokestatic 396, 3) := by decide +kernel
theorem dX10_lots_67 : decode cX10_lots 67 = .ok (.iconst 0, 1) := by decide +kernel
theorem dX10_lots_68 : decode cX10_lots 68 = .ok (.istore 5, 2) := by decide +kernel
theorem dX10_lots_70 : decode cX10_lots 70 = .ok (.iconst 0, 1) := by decide +kernel
theorem dX10_lots_71 : decode cX10_lots 71 = .ok (.istore 6, 2) := by decide +kernel
theorem dX10_lots_73 : decode cX10_lots 73 = .ok (.iconst 0, 1) := by decide +kernel
theorem dX10_lots_74 : decode cX10_lots 74 = .ok (.istore 7, 2) := by decide +kernel
theorem dX10_lots_76 : decode cX10_lots 76 = .ok (.iload 7, 2) := by decide +kernel
theorem dX10_lots_78 : decode cX10_lots 78 = .ok (.iload_n 2, 1) := by decide +kernel
theorem dX10_lots_79 : decode cX10_lots 79 = .ok (.if_icmp .ge 129, 3) := by decide +kernel
theorem dX10_lots_82 : decode cX10_lots 82 = .ok (.iconst 0, 1) := by decide +kernel
theorem dX10_lots_83 : decode cX10_lots 83 = .ok (.istore 8, 2) := by decide +kernel
theorem dX10_lots_85 : decode cX10_lots 85 = .ok (.iload 8, 2) := by decide +kernel
theorem dX10_lots_87 : decode cX10_lots 87 = .ok (.iload_n 3, 1) := by decide +kernel
theorem dX10_lots_88 : decode cX10_lots 88 = .ok (.if_icmp .ge 85, 3) := by decide +kernel
theorem dX10_lots_91 : decode cX10_lots 91 = .ok (.aload_n 0, 1) := by decide +kernel
theorem dX10_lots_92 : decode cX10_lots 92 = .ok (.aload_n 0, 1) := by decide +kernel
theorem dX10_lots_93 : decode cX10_lots 93 = .ok (.aload_n 0, 1) := by decide +kernel
theorem dX10_lots_94 : decode cX10_lots 94 = .ok (.getfield 25, 3) := by decide +kernel
theorem dX10_lots_97 : decode cX10_lots 97 = .ok (.iconst 0, 1) := by decide +kernel
theorem dX10_lots_98 : decode cX10_lots 98 = .ok (.iaload, 1) := by decide +kernel
theorem dX10_lots_99 : decode cX10_lots 99 = .ok (.iconst 1, 1) := by decide +kernel
theorem dX10_lots_100 : decode cX10_lots 100 = .ok (.iadd, 1) := by decide +kernel
theorem dX10_lots_101 : decode cX10_lots 101 = .ok (.invokevirtual 439, 3) := by decide +kernel
theorem dX10_lots_104 : decode cX10_lots 104 = .ok (.invokevirtual 393, 3) := by decide +kernel
theorem dX10_lots_107 : decode cX10_lots 107 = .ok (.iconst 0, 1) := by decide +kernel
theorem dX10_lots_108 : decode cX10_lots 108 = .ok (.istore 9, 2) := by decide +kernel
theorem dX10_lots_110 : decode cX10_lots 110 = .ok (.iconst 0, 1) := by decide +kernel
theorem dX10_lots_111 : decode cX10_lots 111 = .ok (.istore 10, 2) := by decide +kernel
theorem dX10_lots_113 : decode cX10_lots 113 = .ok (.iload 10, 2) := by decide +kernel
theorem dX10_lots_115 : decode cX10_lots 115 = .ok (.aload_n 0, 1) := by decide +kernel
theorem dX10_lots_116 : decode cX10_lots 116 = .ok (.getfield 16, 3) := by decide +kernel
theorem dX10_lots_119 : decode cX10_lots 119 = .ok (.iconst 0, 1) := by decide +kernel
theorem dX10_lots_120 : decode cX10_lots 120 = .ok (.iaload, 1) := by decide +kernel
theorem dX10_lots_121 : decode cX10_lots 121 = .ok (.if_icmp .ge 31, 3) := by decide +kernel
theorem dX10_lots_124 : decode cX10_lots 124 = .ok (.iload 9, 2) := by decide +kernel
theorem dX10_lots_126 : decode cX10_lots 126 = .ok (.ifCond .ne 13, 3) := by decide +kernel
theorem dX10_lots_129 : decode cX10_lots 129 = .ok (.aload_n 0, 1) := by decide +kernel
theorem dX10_lots_130 : decode cX10_lots 130 = .ok (.getfield 108, 3) := by decide +kernel
theorem dX10_lots_133 : decode cX10_lots 133 = .ok (.iload 10, 2) := by decide +kernel
theorem dX10_lots_135 : decode cX10_lots 135 = .ok (.iaload, 1) := by decide +kernel
theorem dX10_lots_136 : decode cX10_lots 136 = .ok (.ifCond .ne 7, 3) := by decide +kernel
theorem dX10_lots_139 : decode cX10_lots 139 = .ok (.iconst 1, 1) := by decide +kernel
theorem dX10_lots_140 : decode cX10_lots 140 = .ok (.goto 4, 3) := by decide +kernel
theorem dX10_lots_143 : decode cX10_lots 143 = .ok (.iconst 0, 1) := by decide +kernel
theorem dX10_lots_144 : decode cX10_lots 144 = .ok (.istore 9, 2) := by decide +kernel
theorem dX10_lots_146 : decode cX10_lots 146 = .ok (.iinc 10 1, 3) := by decide +kernel
theorem dX10_lots_149 : decode cX10_lots 149 = .ok (.goto (-36), 3) := by decide +kernel
theorem dX10_lots_152 : decode cX10_lots 152 = .ok (.iload 6, 2) := by decide +kernel
theorem dX10_lots_154 : decode cX10_lots 154 = .ok (.iload 9, 2) := by decide +kernel
theorem dX10_lots_156 : decode cX10_lots 156 = .ok (.ifCond .eq 7, 3) := by decide +kernel
theorem dX10_lots_159 : decode cX10_lots 159 = .ok (.iconst 1, 1) := by decide +kernel
theorem dX10_lots_160 : decode cX10_lots 160 = .ok (.goto 4, 3) := by decide +kernel
theorem dX10_lots_163 : decode cX10_lots 163 = .ok (.iconst 0, 1) := by decide +kernel
theorem dX10_lots_164 : decode cX10_lots 164 = .ok (.iadd, 1) := by decide +kernel
theorem dX10_lots_165 : decode cX10_lots 165 = .ok (.istore 6, 2) := by decide +kernel
theorem dX10_lots_167 : decode cX10_lots 167 = .ok (.iinc 8 1, 3) := by decide +kernel
theorem dX10_lots_170 : decode cX10_lots 170 = .ok (.goto (-85), 3) := by decide +kernel
theorem dX10_lots_173 : decode cX10_lots 173 = .ok (.iload 5, 2) := by decide +kernel
theorem dX10_lots_175 : decode cX10_lots 175 = .ok (.aload_n 0, 1) := by decide +kernel
theorem dX10_lots_176 : decode cX10_lots 176 = .ok (.getfield 19, 3) := by decide +kernel
theorem dX10_lots_179 : decode cX10_lots 179 = .ok (.iconst 0, 1) := by decide +kernel
theorem dX10_lots_180 : decode cX10_lots 180 = .ok (.iaload, 1) := by decide +kernel
theorem dX10_lots_181 : decode cX10_lots 181 = .ok (.aload_n 0, 1) := by decide +kernel
theorem dX10_lots_182 : decode cX10_lots 182 = .ok (.invokevirtual 422, 3) := by decide +kernel
theorem dX10_lots_185 : decode cX10_lots 185 = .ok (.isub, 1) := by decide +kernel
theorem dX10_lots_186 : decode cX10_lots 186 = .ok (.iadd, 1) := by decide +kernel
theorem dX10_lots_187 : decode cX10_lots 187 = .ok (.istore 5, 2) := by decide +kernel
theorem dX10_lots_189 : decode cX10_lots 189 = .ok (.aload_n 0, 1) := by decide +kernel
theorem dX10_lots_190 : decode cX10_lots 190 = .ok (.getfield 111, 3) := by decide +kernel
theorem dX10_lots_193 : decode cX10_lots 193 = .ok (.iconst 0, 1) := by decide +kernel
theorem dX10_lots_194 : decode cX10_lots 194 = .ok (.aload_n 0, 1) := by decide +kernel
theorem dX10_lots_195 : decode cX10_lots 195 = .ok (.getfield 108, 3) := by decide +kernel
theorem dX10_lots_198 : decode cX10_lots 198 = .ok (.iconst 0, 1) := by decide +kernel
theorem dX10_lots_199 : decode cX10_lots 199 = .ok (.invokestatic 396, 3) := by decide +kernel
theorem dX10_lots_202 : decode cX10_lots 202 = .ok (.iinc 7 1, 3) := by decide +kernel
theorem dX10_lots_205 : decode cX10_lots 205 = .ok (.goto (-129), 3) := by decide +kernel
theorem dX10_lots_208 : decode cX10_lots 208 = .ok (.iload 4, 2) := by decide +kernel
theorem dX10_lots_210 : decode cX10_lots 210 = .ok (.ifCond .ne 8, 3) := by decide +kernel
theorem dX10_lots_213 : decode cX10_lots 213 = .ok (.iload 5, 2) := by decide +kernel
theorem dX10_lots_215 : decode cX10_lots 215 = .ok (.goto 5, 3) := by decide +kernel
theorem dX10_lots_218 : decode cX10_lots 218 = .ok (.iload 6, 2) := by decide +kernel
theorem dX10_lots_220 : decode cX10_lots 220 = .ok (.ireturn, 1) := by decide +kernel
theorem dX10_mark_0 : decode cX10_mark 0 = .ok (.aload_n 0, 1) := by decide +kernel
theorem dX10_mark_1 : decode cX10_mark 1 = .ok (.iconst 0, 1) := by decide +kernel
theorem dX10_mark_2 : decode cX10_mark 2 = .ok (.putfield 135, 3) := by decide +kernel
theorem dX10_mark_5 : decode cX10_mark 5 = .ok (.iload_n 1, 1) := by decide +kernel
theorem dX10_mark_6 : decode cX10_mark 6 = .ok (.iconst 0, 1) := by decide +kernel
theorem dX10_mark_7 : decode cX10_mark 7 = .ok (.iconst 3, 1) := by decide +kernel
theorem dX10_mark_8 : decode cX10_mark 8 = .ok (.invokestatic 263, 3) := by decide +kernel
theorem dX10_mark_11 : decode cX10_mark 11 = .ok (.ifCond .eq 16, 3) := by decide +kernel
theorem dX10_mark_14 : decode cX10_mark 14 = .ok (.iload_n 2, 1) := by decide +kernel
theorem dX10_mark_15 : decode cX10_mark 15 = .ok (.ifCond .eq 14, 3) := by decide +kernel
theorem dX10_mark_18 : decode cX10_mark 18 = .ok (.aload_n 0, 1) := by decide +kernel
theorem dX10_mark_19 : decode cX10_mark 19 = .ok (.getfield 132, 3) := by decide +kernel
theorem dX10_mark_22 : decode cX10_mark 22 = .ok (.iload_n 1, 1) := by decide +kernel
theorem dX10_mark_23 : decode cX10_mark 23 = .ok (.baload, 1) := by decide +kernel
theorem dX10_mark_24 : decode cX10_mark 24 = .ok (.ifCond .ne 5, 3) := by decide +kernel
theorem dX10_mark_27 : decode cX10_mark 27 = .ok (.iconst 0, 1) := by decide +kernel
theorem dX10_mark_28 : decode cX10_mark 28 = .ok (.ireturn, 1) := by decide +kernel
theorem dX10_mark_29 : decode cX10_mark 29 = .ok (.aload_n 0, 1) := by decide +kernel
theorem dX10_mark_30 : decode cX10_mark 30 = .ok (.getfield 132, 3) := by decide +kernel
theorem dX10_mark_33 : decode cX10_mark 33 = .ok (.iload_n 1, 1) := by decide +kernel
theorem dX10_mark_34 : decode cX10_mark 34 = .ok (.iconst 1, 1) := by decide +kernel
theorem dX10_mark_35 : decode cX10_mark 35 = .ok (.bastore, 1) := by decide +kernel
theorem dX10_mark_36 : decode cX10_mark 36 = .ok (.iload_n 2, 1) := by decide +kernel
theorem dX10_mark_37 : decode cX10_mark 37 = .ok (.ifCond .eq 33, 3) := by decide +kernel
theorem dX10_mark_40 : decode cX10_mark 40 = .ok (.aload_n 0, 1) := by decide +kernel
theorem dX10_mark_41 : decode cX10_mark 41 = .ok (.iconst 2, 1) := by decide +kernel
theorem dX10_mark_42 : decode cX10_mark 42 = .ok (.iload_n 1, 1) := by decide +kernel
theorem dX10_mark_43 : decode cX10_mark 43 = .ok (.iadd, 1) := by decide +kernel
theorem dX10_mark_44 : decode cX10_mark 44 = .ok (.iconst 0, 1) := by decide +kernel
theorem dX10_mark_45 : decode cX10_mark 45 = .ok (.invokevirtual 317, 3) := by decide +kernel
theorem dX10_mark_48 : decode cX10_mark 48 = .ok (.aload_n 0, 1) := by decide +kernel
theorem dX10_mark_49 : decode cX10_mark 49 = .ok (.getfield 114, 3) := by decide +kernel
theorem dX10_mark_52 : decode cX10_mark 52 = .ok (.bipush 96, 2) := by decide +kernel
theorem dX10_mark_54 : decode cX10_mark 54 = .ok (.iload_n 1, 1) := by decide +kernel
theorem dX10_mark_55 : decode cX10_mark 55 = .ok (.imul, 1) := by decide +kernel
theorem dX10_mark_56 : decode cX10_mark 56 = .ok (.aload_n 0, 1) := by decide +kernel
theorem dX10_mark_57 : decode cX10_mark 57 = .ok (.getfield 108, 3) := by decide +kernel
theorem dX10_mark_60 : decode cX10_mark 60 = .ok (.iconst 0, 1) := by decide +kernel
theorem dX10_mark_61 : decode cX10_mark 61 = .ok (.invokestatic 396, 3) := by decide +kernel
theorem dX10_mark_64 : decode cX10_mark 64 = .ok (.aload_n 0, 1) := by decide +kernel
theorem dX10_mark_65 : decode cX10_mark 65 = .ok (.invokevirtual 321, 3) := by decide +kernel
theorem dX10_mark_68 : decode cX10_mark 68 = .ok (.iconst 1, 1) := by decide +kernel
theorem dX10_mark_69 : decode cX10_mark 69 = .ok (.ireturn, 1) := by decide +kernel
theorem dX10_mark_70 : decode cX10_mark 70 = .ok (.aload_n 0, 1) := by decide +kernel
theorem dX10_mark_71 : decode cX10_mark 71 = .ok (.iconst 0, 1) := by decide +kernel
theorem dX10_mark_72 : decode cX10_mark 72 = .ok (.iconst 2, 1) := by decide +kernel
theorem dX10_mark_73 : decode cX10_mark 73 = .ok (.iload_n 1, 1) := by decide +kernel
theorem dX10_mark_74 : decode cX10_mark 74 = .ok (.iadd, 1) := by decide +kernel
theorem dX10_mark_75 : decode cX10_mark 75 = .ok (.invokevirtual 317, 3) := by decide +kernel
theorem dX10_mark_78 : decode cX10_mark 78 = .ok (.aload_n 0, 1) := by decide +kernel
theorem dX10_mark_79 : decode cX10_mark 79 = .ok (.getfield 108, 3) := by decide +kernel
theorem dX10_mark_82 : decode cX10_mark 82 = .ok (.iconst 0, 1) := by decide +kernel
theorem dX10_mark_83 : decode cX10_mark 83 = .ok (.aload_n 0, 1) := by decide +kernel
theorem dX10_mark_84 : decode cX10_mark 84 = .ok (.getfield 114, 3) := by decide +kernel
theorem dX10_mark_87 : decode cX10_mark 87 = .ok (.bipush 96, 2) := by decide +kernel
theorem dX10_mark_89 : decode cX10_mark 89 = .ok (.iload_n 1, 1) := by decide +kernel
theorem dX10_mark_90 : decode cX10_mark 90 = .ok (.imul, 1) := by decide +kernel
theorem dX10_mark_91 : decode cX10_mark 91 = .ok (.invokestatic 396, 3) := by decide +kernel
theorem dX10_mark_94 : decode cX10_mark 94 = .ok (.iconst 1, 1) := by decide +kernel
theorem dX10_mark_95 : decode cX10_mark 95 = .ok (.ireturn, 1) := by decide +kernel
theorem dX10_count_0 : decode cX10_count 0 = .ok (.aload_n 0, 1) := by decide +kernel
theorem dX10_count_1 : decode cX10_count 1 = .ok (.iconst 0, 1) := by decide +kernel
theorem dX10_count_2 : decode cX10_count 2 = .ok (.putfield 135, 3) := by decide +kernel
theorem dX10_count_5 : decode cX10_count 5 = .ok (.iload_n 1, 1) := by decide +kernel
theorem dX10_count_6 : decode cX10_count 6 = .ok (.iconst 0, 1) := by decide +kernel
theorem dX10_count_7 : decode cX10_count 7 = .ok (.bipush 7, 2) := by decide +kernel
theorem dX10_count_9 : decode cX10_count 9 = .ok (.invokestatic 263, 3) := by decide +kernel
theorem dX10_count_12 : decode cX10_count 12 = .ok (.ifCond .ne 5, 3) := by decide +kernel
theorem dX10_count_15 : decode cX10_count 15 = .ok (.iconst (-1), 1) := by decide +kernel
theorem dX10_count_16 : decode cX10_count 16 = .ok (.ireturn, 1) := by decide +kernel
theorem dX10_count_17 : decode cX10_count 17 = .ok (.iload_n 1, 1) := by decide +kernel
theorem dX10_count_18 : decode cX10_count 18 = .ok (.iconst 4, 1) := by decide +kernel
theorem dX10_count_19 : decode cX10_count 19 = .ok (.if_icmp .ge 51, 3) := by decide +kernel
theorem dX10_count_22 : decode cX10_count 22 = .ok (.iload_n 1, 1) := by decide +kernel
theorem dX10_count_23 : decode cX10_count 23 = .ok (.ifCond .ne 12, 3) := by decide +kernel
theorem dX10_count_26 : decode cX10_count 26 = .ok (.aload_n 0, 1) := by decide +kernel
theorem dX10_count_27 : decode cX10_count 27 = .ok (.getfield 13, 3) := by decide +kernel
theorem dX10_count_30 : decode cX10_count 30 = .ok (.iconst 0, 1) := by decide +kernel
theorem dX10_count_31 : decode cX10_count 31 = .ok (.iaload, 1) := by decide +kernel
theorem dX10_count_32 : decode cX10_count 32 = .ok (.goto 37, 3) := by decide +kernel
theorem dX10_count_35 : decode cX10_count 35 = .ok (.iload_n 1, 1) := by decide +kernel
theorem dX10_count_36 : decode cX10_count 36 = .ok (.iconst 1, 1) := by decide +kernel
theorem dX10_count_37 : decode cX10_count 37 = .ok (.if_icmp .ne 12, 3) := by decide +kernel
theorem dX10_count_40 : decode cX10_count 40 = .ok (.aload_n 0, 1) := by decide +kernel
theorem dX10_count_41 : decode cX10_count 41 = .ok (.getfield 16, 3) := by decide +kernel
theorem dX10_count_44 : decode cX10_count 44 = .ok (.iconst 0, 1) := by decide +kernel
theorem dX10_count_45 : decode cX10_count 45 = .ok (.iaload, 1) := by decide +kernel
theorem dX10_count_46 : decode cX10_count 46 = .ok (.goto 23, 3) := by decide +kernel
theorem dX10_count_49 : decode cX10_count 49 = .ok (.iload_n 1, 1) := by decide +kernel
theorem dX10_count_50 : decode cX10_count 50 = .ok (.iconst 2, 1) := by decide +kernel
theorem dX10_count_51 : decode cX10_count 51 = .ok (.if_icmp .ne 12, 3) := by decide +kernel
theorem dX10_count_54 : decode cX10_count 54 = .ok (.aload_n 0, 1) := by decide +kernel
theorem dX10_count_55 : decode cX10_count 55 = .ok (.getfield 19, 3) := by decide +kernel
theorem dX10_count_58 : decode cX10_count 58 = .ok (.iconst 0, 1) := by decide +kernel
theorem dX10_count_59 : decode cX10_count 59 = .ok (.iaload, 1) := by decide +kernel
theorem dX10_count_60 : decode cX10_count 60 = .ok (.goto 9, 3) := by decide +kernel
theorem dX10_count_63 : decode cX10_count 63 = .ok (.aload_n 0, 1) := by decide +kernel
theorem dX10_count_64 : decode cX10_count 64 = .ok (.getfield 22, 3) := by decide +kernel
theorem dX10_count_67 : decode cX10_count 67 = .ok (.iconst 0, 1) := by decide +kernel
theorem dX10_count_68 : decode cX10_count 68 = .ok (.iaload, 1) := by decide +kernel
theorem dX10_count_69 : decode cX10_count 69 = .ok (.ireturn, 1) := by decide +kernel
theorem dX10_count_70 : decode cX10_count 70 = .ok (.iload_n 1, 1) := by decide +kernel
theorem dX10_count_71 : decode cX10_count 71 = .ok (.iconst 4, 1) := by decide +kernel
theorem dX10_count_72 : decode cX10_count 72 = .ok (.if_icmp .ne 13, 3) := by decide +kernel
theorem dX10_count_75 : decode cX10_count 75 = .ok (.aload_n 0, 1) := by decide +kernel
theorem dX10_count_76 : decode cX10_count 76 = .ok (.getfield 108, 3) := by decide +kernel
theorem dX10_count_79 : decode cX10_count 79 = .ok (.bipush 80, 2) := by decide +kernel
theorem dX10_count_81 : decode cX10_count 81 = .ok (.iaload, 1) := by decide +kernel
theorem dX10_count_82 : decode cX10_count 82 = .ok (.goto 34, 3) := by decide +kernel
theorem dX10_count_85 : decode cX10_count 85 = .ok (.iload_n 1, 1) := by decide +kernel
theorem dX10_count_86 : decode cX10_count 86 = .ok (.iconst 5, 1) := by decide +kernel
theorem dX10_count_87 : decode cX10_count 87 = .ok (.if_icmp .ne 10, 3) := by decide +kernel
theorem dX10_count_90 : decode cX10_count 90 = .ok (.aload_n 0, 1) := by decide +kernel
theorem dX10_count_91 : decode cX10_count 91 = .ok (.invokevirtual 422, 3) := by decide +kernel
theorem dX10_count_94 : decode cX10_count 94 = .ok (.goto 22, 3) := by decide +kernel
theorem dX10_count_97 : decode cX10_count 97 = .ok (.iload_n 1, 1) := by decide +kernel
theorem dX10_count_98 : decode cX10_count 98 = .ok (.bipush 6, 2) := by decide +kernel
theorem dX10_count_100 : decode cX10_count 100 = .ok (.if_icmp .ne 12, 3) := by decide +kernel
theorem dX10_count_103 : decode cX10_count 103 = .ok (.aload_n 0, 1) := by decide +kernel
theorem dX10_count_104 : decode cX10_count 104 = .ok (.getfield 25, 3) := by decide +kernel
theorem dX10_count_107 : decode cX10_count 107 = .ok (.iconst 0, 1) := by decide +kernel
theorem dX10_count_108 : decode cX10_count 108 = .ok (.iaload, 1) := by decide +kernel
theorem dX10_count_109 : decode cX10_count 109 = .ok (.goto 7, 3) := by decide +kernel
theorem dX10_count_112 : decode cX10_count 112 = .ok (.aload_n 0, 1) := by decide +kernel
theorem dX10_count_113 : decode cX10_count 113 = .ok (.getfield 141, 3) := by decide +kernel
theorem dX10_count_116 : decode cX10_count 116 = .ok (.ireturn, 1) := by decide +kernel
theorem dJ11_isValidCodePoint_9a6ad_0 : decode cJ11_isValidCodePoint_9a6ad 0 = .ok (.iload_n 0, 1) := by decide +kernel
theorem dJ11_isValidCodePoint_9a6ad_1 : decode cJ11_isValidCodePoint_9a6ad 1 = .ok (.bipush 16, 2) := by decide +kernel
theorem dJ11_isValidCodePoint_9a6ad_3 : decode cJ11_isValidCodePoint_9a6ad 3 = .ok (.iushr, 1) := by decide +kernel
theorem dJ11_isValidCodePoint_9a6ad_4 : decode cJ11_isValidCodePoint_9a6ad 4 = .ok (.istore_n 1, 1) := by decide +kernel
theorem dJ11_isValidCodePoint_9a6ad_5 : decode cJ11_isValidCodePoint_9a6ad 5 = .ok (.iload_n 1, 1) := by decide +kernel
theorem dJ11_isValidCodePoint_9a6ad_6 : decode cJ11_isValidCodePoint_9a6ad 6 = .ok (.bipush 17, 2) := by decide +kernel
theorem dJ11_isValidCodePoint_9a6ad_8 : decode cJ11_isValidCodePoint_9a6ad 8 = .ok (.if_icmp .ge 7, 3) := by decide +kernel
theorem dJ11_isValidCodePoint_9a6ad_11 : decode cJ11_isValidCodePoint_9a6ad 11 = .ok (.iconst 1, 1) := by decide +kernel
theorem dJ11_isValidCodePoint_9a6ad_12 : decode cJ11_isValidCodePoint_9a6ad 12 = .ok (.goto 4, 3) := by decide +kernel
theorem dJ11_isValidCodePoint_9a6ad_15 : decode cJ11_isValidCodePoint_9a6ad 15 = .ok (.iconst 0, 1) := by decide +kernel
theorem dJ11_isValidCodePoint_9a6ad_16 : decode cJ11_isValidCodePoint_9a6ad 16 = .ok (.ireturn, 1) := by decide +kernel
theorem dJ11_highSurrogate_5068e_0 : decode cJ11_highSurrogate_5068e 0 = .ok (.iload_n 0, 1) := by decide +kernel
theorem dJ11_highSurrogate_5068e_1 : decode cJ11_highSurrogate_5068e 1 = .ok (.bipush 10, 2) := by decide +kernel
theorem dJ11_highSurrogate_5068e_3 : decode cJ11_highSurrogate_5068e 3 = .ok (.iushr, 1) := by decide +kernel
theorem dJ11_highSurrogate_5068e_4 : decode cJ11_highSurrogate_5068e 4 = .ok (.ldc 110, 2) := by decide +kernel
theorem dJ11_highSurrogate_5068e_6 : decode cJ11_highSurrogate_5068e 6 = .ok (.iadd, 1) := by decide +kernel
theorem dJ11_highSurrogate_5068e_7 : decode cJ11_highSurrogate_5068e 7 = .ok (.i2c, 1) := by decide +kernel
theorem dJ11_highSurrogate_5068e_8 : decode cJ11_highSurrogate_5068e 8 = .ok (.ireturn, 1) := by decide +kernel
theorem dJ11_lowSurrogate_5068e_0 : decode cJ11_lowSurrogate_5068e 0 = .ok (.iload_n 0, 1) := by decide +kernel
theorem dJ11_lowSurrogate_5068e_1 : decode cJ11_lowSurrogate_5068e 1 = .ok (.sipush 1023, 3) := by decide +kernel
theorem dJ11_lowSurrogate_5068e_4 : decode cJ11_lowSurrogate_5068e 4 = .ok (.iand, 1) := by decide +kernel
theorem dJ11_lowSurrogate_5068e_5 : decode cJ11_lowSurrogate_5068e 5 = .ok (.ldc 76, 2) := by decide +kernel
theorem dJ11_lowSurrogate_5068e_7 : decode cJ11_lowSurrogate_5068e 7 = .ok (.iadd, 1) := by decide +kernel
theorem dJ11_lowSurrogate_5068e_8 : decode cJ11_lowSurrogate_5068e 8 = .ok (.i2c, 1) := by decide +kernel
theorem dJ11_lowSurrogate_5068e_9 : decode cJ11_lowSurrogate_5068e 9 = .ok (.ireturn, 1) := by decide +kernel
theorem dJ6_bitCount_0f7a4_0 : decode cJ6_bitCount_0f7a4 0 = .ok (.iload_n 0, 1) := by decide +kernel
theorem dJ6_bitCount_0f7a4_1 : decode cJ6_bitCount_0f7a4 1 = .ok (.iload_n 0, 1) := by decide +kernel
theorem dJ6_bitCount_0f7a4_2 : decode cJ6_bitCount_0f7a4 2 = .ok (.iconst 1, 1) := by decide +kernel
theorem dJ6_bitCount_0f7a4_3 : decode cJ6_bitCount_0f7a4 3 = .ok (.iushr, 1) := by decide +kernel
theorem dJ6_bitCount_0f7a4_4 : decode cJ6_bitCount_0f7a4 4 = .ok (.ldc_w 265, 3) := by decide +kernel
theorem dJ6_bitCount_0f7a4_7 : decode cJ6_bitCount_0f7a4 7 = .ok (.iand, 1) := by decide +kernel
theorem dJ6_bitCount_0f7a4_8 : decode cJ6_bitCount_0f7a4 8 = .ok (.isub, 1) := by decide +kernel
theorem dJ6_bitCount_0f7a4_9 : decode cJ6_bitCount_0f7a4 9 = .ok (.istore_n 0, 1) := by decide +kernel
theorem dJ6_bitCount_0f7a4_10 : decode cJ6_bitCount_0f7a4 10 = .ok (.iload_n 0, 1) := by decide +kernel
theorem dJ6_bitCount_0f7a4_11 : decode cJ6_bitCount_0f7a4 11 = .ok (.ldc_w 266, 3) := by decide +kernel
theorem dJ6_bitCount_0f7a4_14 : decode cJ6_bitCount_0f7a4 14 = .ok (.iand, 1) := by decide +kernel
theorem dJ6_bitCount_0f7a4_15 : decode cJ6_bitCount_0f7a4 15 = .ok (.iload_n 0, 1) := by decide +kernel
theorem dJ6_bitCount_0f7a4_16 : decode cJ6_bitCount_0f7a4 16 = .ok (.iconst 2, 1) := by decide +kernel
theorem dJ6_bitCount_0f7a4_17 : decode cJ6_bitCount_0f7a4 17 = .ok (.iushr, 1) := by decide +kernel
theorem dJ6_bitCount_0f7a4_18 : decode cJ6_bitCount_0f7a4 18 = .ok (.ldc_w 266, 3) := by decide +kernel
theorem dJ6_bitCount_0f7a4_21 : decode cJ6_bitCount_0f7a4 21 = .ok (.iand, 1) := by decide +kernel
theorem dJ6_bitCount_0f7a4_22 : decode cJ6_bitCount_0f7a4 22 = .ok (.iadd, 1) := by decide +kernel
theorem dJ6_bitCount_0f7a4_23 : decode cJ6_bitCount_0f7a4 23 = .ok (.istore_n 0, 1) := by decide +kernel
theorem dJ6_bitCount_0f7a4_24 : decode cJ6_bitCount_0f7a4 24 = .ok (.iload_n 0, 1) := by decide +kernel
theorem dJ6_bitCount_0f7a4_25 : decode cJ6_bitCount_0f7a4 25 = .ok (.iload_n 0, 1) := by decide +kernel
theorem dJ6_bitCount_0f7a4_26 : decode cJ6_bitCount_0f7a4 26 = .ok (.iconst 4, 1) := by decide +kernel
theorem dJ6_bitCount_0f7a4_27 : decode cJ6_bitCount_0f7a4 27 = .ok (.iushr, 1) := by decide +kernel
theorem dJ6_bitCount_0f7a4_28 : decode cJ6_bitCount_0f7a4 28 = .ok (.iadd, 1) := by decide +kernel
theorem dJ6_bitCount_0f7a4_29 : decode cJ6_bitCount_0f7a4 29 = .ok (.ldc_w 267, 3) := by decide +kernel
theorem dJ6_bitCount_0f7a4_32 : decode cJ6_bitCount_0f7a4 32 = .ok (.iand, 1) := by decide +kernel
theorem dJ6_bitCount_0f7a4_33 : decode cJ6_bitCount_0f7a4 33 = .ok (.istore_n 0, 1) := by decide +kernel
theorem dJ6_bitCount_0f7a4_34 : decode cJ6_bitCount_0f7a4 34 = .ok (.iload_n 0, 1) := by decide +kernel
theorem dJ6_bitCount_0f7a4_35 : decode cJ6_bitCount_0f7a4 35 = .ok (.iload_n 0, 1) := by decide +kernel
theorem dJ6_bitCount_0f7a4_36 : decode cJ6_bitCount_0f7a4 36 = .ok (.bipush 8, 2) := by decide +kernel
theorem dJ6_bitCount_0f7a4_38 : decode cJ6_bitCount_0f7a4 38 = .ok (.iushr, 1) := by decide +kernel
theorem dJ6_bitCount_0f7a4_39 : decode cJ6_bitCount_0f7a4 39 = .ok (.iadd, 1) := by decide +kernel
theorem dJ6_bitCount_0f7a4_40 : decode cJ6_bitCount_0f7a4 40 = .ok (.istore_n 0, 1) := by decide +kernel
theorem dJ6_bitCount_0f7a4_41 : decode cJ6_bitCount_0f7a4 41 = .ok (.iload_n 0, 1) := by decide +kernel
theorem dJ6_bitCount_0f7a4_42 : decode cJ6_bitCount_0f7a4 42 = .ok (.iload_n 0, 1) := by decide +kernel
theorem dJ6_bitCount_0f7a4_43 : decode cJ6_bitCount_0f7a4 43 = .ok (.bipush 16, 2) := by decide +kernel
theorem dJ6_bitCount_0f7a4_45 : decode cJ6_bitCount_0f7a4 45 = .ok (.iushr, 1) := by decide +kernel
theorem dJ6_bitCount_0f7a4_46 : decode cJ6_bitCount_0f7a4 46 = .ok (.iadd, 1) := by decide +kernel
theorem dJ6_bitCount_0f7a4_47 : decode cJ6_bitCount_0f7a4 47 = .ok (.istore_n 0, 1) := by decide +kernel
theorem dJ6_bitCount_0f7a4_48 : decode cJ6_bitCount_0f7a4 48 = .ok (.iload_n 0, 1) := by decide +kernel
theorem dJ6_bitCount_0f7a4_49 : decode cJ6_bitCount_0f7a4 49 = .ok (.bipush 63, 2) := by decide +kernel
theorem dJ6_bitCount_0f7a4_51 : decode cJ6_bitCount_0f7a4 51 = .ok (.iand, 1) := by decide +kernel
theorem dJ6_bitCount_0f7a4_52 : decode cJ6_bitCount_0f7a4 52 = .ok (.ireturn, 1) := by decide +kernel
theorem dJ9_floorMod_7cf53_0 : decode cJ9_floorMod_7cf53 0 = .ok (.iload_n 0, 1) := by decide +kernel
theorem dJ9_floorMod_7cf53_1 : decode cJ9_floorMod_7cf53 1 = .ok (.iload_n 1, 1) := by decide +kernel
theorem dJ9_floorMod_7cf53_2 : decode cJ9_floorMod_7cf53 2 = .ok (.irem, 1) := by decide +kernel
theorem dJ9_floorMod_7cf53_3 : decode cJ9_floorMod_7cf53 3 = .ok (.istore_n 2, 1) := by decide +kernel
theorem dJ9_floorMod_7cf53_4 : decode cJ9_floorMod_7cf53 4 = .ok (.iload_n 0, 1) := by decide +kernel
theorem dJ9_floorMod_7cf53_5 : decode cJ9_floorMod_7cf53 5 = .ok (.iload_n 1, 1) := by decide +kernel
theorem dJ9_floorMod_7cf53_6 : decode cJ9_floorMod_7cf53 6 = .ok (.ixor, 1) := by decide +kernel
theorem dJ9_floorMod_7cf53_7 : decode cJ9_floorMod_7cf53 7 = .ok (.ifCond .ge 11, 3) := by decide +kernel
theorem dJ9_floorMod_7cf53_10 : decode cJ9_floorMod_7cf53 10 = .ok (.iload_n 2, 1) := by decide +kernel
theorem dJ9_floorMod_7cf53_11 : decode cJ9_floorMod_7cf53 11 = .ok (.ifCond .eq 7, 3) := by decide +kernel
theorem dJ9_floorMod_7cf53_14 : decode cJ9_floorMod_7cf53 14 = .ok (.iload_n 2, 1) := by decide +kernel
theorem dJ9_floorMod_7cf53_15 : decode cJ9_floorMod_7cf53 15 = .ok (.iload_n 1, 1) := by decide +kernel
theorem dJ9_floorMod_7cf53_16 : decode cJ9_floorMod_7cf53 16 = .ok (.iadd, 1) := by decide +kernel
theorem dJ9_floorMod_7cf53_17 : decode cJ9_floorMod_7cf53 17 = .ok (.ireturn, 1) := by decide +kernel
theorem dJ9_floorMod_7cf53_18 : decode cJ9_floorMod_7cf53 18 = .ok (.iload_n 2, 1) := by decide +kernel
theorem dJ9_floorMod_7cf53_19 : decode cJ9_floorMod_7cf53 19 = .ok (.ireturn, 1) := by decide +kernel
theorem dJ9_max_7cf53_0 : decode cJ9_max_7cf53 0 = .ok (.iload_n 0, 1) := by decide +kernel
theorem dJ9_max_7cf53_1 : decode cJ9_max_7cf53 1 = .ok (.iload_n 1, 1) := by decide +kernel
theorem dJ9_max_7cf53_2 : decode cJ9_max_7cf53 2 = .ok (.if_icmp .lt 7, 3) := by decide +kernel
theorem dJ9_max_7cf53_5 : decode cJ9_max_7cf53 5 = .ok (.iload_n 0, 1) := by decide +kernel
theorem dJ9_max_7cf53_6 : decode cJ9_max_7cf53 6 = .ok (.goto 4, 3) := by decide +kernel
theorem dJ9_max_7cf53_9 : decode cJ9_max_7cf53 9 = .ok (.iload_n 1, 1) := by decide +kernel
theorem dJ9_max_7cf53_10 : decode cJ9_max_7cf53 10 = .ok (.ireturn, 1) := by decide +kernel
theorem dJ9_min_7cf53_0 : decode cJ9_min_7cf53 0 = .ok (.iload_n 0, 1) := by decide +kernel
theorem dJ9_min_7cf53_1 : decode cJ9_min_7cf53 1 = .ok (.iload_n 1, 1) := by decide +kernel
theorem dJ9_min_7cf53_2 : decode cJ9_min_7cf53 2 = .ok (.if_icmp .gt 7, 3) := by decide +kernel
theorem dJ9_min_7cf53_5 : decode cJ9_min_7cf53 5 = .ok (.iload_n 0, 1) := by decide +kernel
theorem dJ9_min_7cf53_6 : decode cJ9_min_7cf53 6 = .ok (.goto 4, 3) := by decide +kernel
theorem dJ9_min_7cf53_9 : decode cJ9_min_7cf53 9 = .ok (.iload_n 1, 1) := by decide +kernel
theorem dJ9_min_7cf53_10 : decode cJ9_min_7cf53 10 = .ok (.ireturn, 1) := by decide +kernel
theorem dJ0_length_8abf5_0 : decode cJ0_length_8abf5 0 = .ok (.aload_n 0, 1) := by decide +kernel
theorem dJ0_length_8abf5_1 : decode cJ0_length_8abf5 1 = .ok (.getfield 9, 3) := by decide +kernel
theorem dJ0_length_8abf5_4 : decode cJ0_length_8abf5 4 = .ok (.arraylength, 1) := by decide +kernel
theorem dJ0_length_8abf5_5 : decode cJ0_length_8abf5 5 = .ok (.aload_n 0, 1) := by decide +kernel
theorem dJ0_length_8abf5_6 : decode cJ0_length_8abf5 6 = .ok (.invokevirtual 335, 3) := by decide +kernel
theorem dJ0_length_8abf5_9 : decode cJ0_length_8abf5 9 = .ok (.ishr, 1) := by decide +kernel
theorem dJ0_length_8abf5_10 : decode cJ0_length_8abf5 10 = .ok (.ireturn, 1) := by decide +kernel
theorem dJ0_indexOf_0f7a4_0 : decode cJ0_indexOf_0f7a4 0 = .ok (.aload_n 0, 1) := by decide +kernel
theorem dJ0_indexOf_0f7a4_1 : decode cJ0_indexOf_0f7a4 1 = .ok (.iload_n 1, 1) := by decide +kernel
theorem dJ0_indexOf_0f7a4_2 : decode cJ0_indexOf_0f7a4 2 = .ok (.iconst 0, 1) := by decide +kernel
theorem dJ0_indexOf_0f7a4_3 : decode cJ0_indexOf_0f7a4 3 = .ok (.invokevirtual 633, 3) := by decide +kernel
theorem dJ0_indexOf_0f7a4_6 : decode cJ0_indexOf_0f7a4 6 = .ok (.ireturn, 1) := by decide +kernel
theorem dJ0_indexOf_7cf53_0 : decode cJ0_indexOf_7cf53 0 = .ok (.aload_n 0, 1) := by decide +kernel
theorem dJ0_indexOf_7cf53_1 : decode cJ0_indexOf_7cf53 1 = .ok (.invokevirtual 492, 3) := by decide +kernel
theorem dJ0_indexOf_7cf53_4 : decode cJ0_indexOf_7cf53 4 = .ok (.ifCond .eq 19, 3) := by decide +kernel
theorem dJ0_indexOf_7cf53_7 : decode cJ0_indexOf_7cf53 7 = .ok (.aload_n 0, 1) := by decide +kernel
theorem dJ0_indexOf_7cf53_8 : decode cJ0_indexOf_7cf53 8 = .ok (.getfield 9, 3) := by decide +kernel
theorem dJ0_indexOf_7cf53_11 : decode cJ0_indexOf_7cf53 11 = .ok (.iload_n 1, 1) := by decide +kernel
theorem dJ0_indexOf_7cf53_12 : decode cJ0_indexOf_7cf53 12 = .ok (.iload_n 2, 1) := by decide +kernel
theorem dJ0_indexOf_7cf53_13 : decode cJ0_indexOf_7cf53 13 = .ok (.aload_n 0, 1) := by decide +kernel
theorem dJ0_indexOf_7cf53_14 : decode cJ0_indexOf_7cf53 14 = .ok (.invokevirtual 505, 3) := by decide +kernel
theorem dJ0_indexOf_7cf53_17 : decode cJ0_indexOf_7cf53 17 = .ok (.invokestatic 637, 3) := by decide +kernel
theorem dJ0_indexOf_7cf53_20 : decode cJ0_indexOf_7cf53 20 = .ok (.goto 16, 3) := by decide +kernel
theorem dJ0_indexOf_7cf53_23 : decode cJ0_indexOf_7cf53 23 = .ok (.aload_n 0, 1) := by decide +kernel
theorem dJ0_indexOf_7cf53_24 : decode cJ0_indexOf_7cf53 24 = .ok (.getfield 9, 3) := by decide +kernel
theorem dJ0_indexOf_7cf53_27 : decode cJ0_indexOf_7cf53 27 = .ok (.iload_n 1, 1) := by decide +kernel
theorem dJ0_indexOf_7cf53_28 : decode cJ0_indexOf_7cf53 28 = .ok (.iload_n 2, 1) := by decide +kernel
theorem dJ0_indexOf_7cf53_29 : decode cJ0_indexOf_7cf53 29 = .ok (.aload_n 0, 1) := by decide +kernel
theorem dJ0_indexOf_7cf53_30 : decode cJ0_indexOf_7cf53 30 = .ok (.invokevirtual 505, 3) := by decide +kernel
theorem dJ0_indexOf_7cf53_33 : decode cJ0_indexOf_7cf53 33 = .ok (.invokestatic 640, 3) := by decide +kernel
theorem dJ0_indexOf_7cf53_36 : decode cJ0_indexOf_7cf53 36 = .ok (.ireturn, 1) := by decide +kernel
theorem dJ0_coder_7d493_0 : decode cJ0_coder_7d493 0 = .ok (.getstatic 38, 3) := by decide +kernel
theorem dJ0_coder_7d493_3 : decode cJ0_coder_7d493 3 = .ok (.ifCond .eq 10, 3) := by decide +kernel
theorem dJ0_coder_7d493_6 : decode cJ0_coder_7d493 6 = .ok (.aload_n 0, 1) := by decide +kernel
theorem dJ0_coder_7d493_7 : decode cJ0_coder_7d493 7 = .ok (.getfield 15, 3) := by decide +kernel
theorem dJ0_coder_7d493_10 : decode cJ0_coder_7d493 10 = .ok (.goto 4, 3) := by decide +kernel
theorem dJ0_coder_7d493_13 : decode cJ0_coder_7d493 13 = .ok (.iconst 1, 1) := by decide +kernel
theorem dJ0_coder_7d493_14 : decode cJ0_coder_7d493 14 = .ok (.ireturn, 1) := by decide +kernel
theorem dJ0_isLatin1_aae02_0 : decode cJ0_isLatin1_aae02 0 = .ok (.getstatic 38, 3) := by decide +kernel
theorem dJ0_isLatin1_aae02_3 : decode cJ0_isLatin1_aae02 3 = .ok (.ifCond .eq 14, 3) := by decide +kernel
theorem dJ0_isLatin1_aae02_6 : decode cJ0_isLatin1_aae02 6 = .ok (.aload_n 0, 1) := by decide +kernel
theorem dJ0_isLatin1_aae02_7 : decode cJ0_isLatin1_aae02 7 = .ok (.getfield 15, 3) := by decide +kernel
theorem dJ0_isLatin1_aae02_10 : decode cJ0_isLatin1_aae02 10 = .ok (.ifCond .ne 7, 3) := by decide +kernel
theorem dJ0_isLatin1_aae02_13 : decode cJ0_isLatin1_aae02 13 = .ok (.iconst 1, 1) := by decide +kernel
theorem dJ0_isLatin1_aae02_14 : decode cJ0_isLatin1_aae02 14 = .ok (.goto 4, 3) := by decide +kernel
theorem dJ0_isLatin1_aae02_17 : decode cJ0_isLatin1_aae02 17 = .ok (.iconst 0, 1) := by decide +kernel
theorem dJ0_isLatin1_aae02_18 : decode cJ0_isLatin1_aae02 18 = .ok (.ireturn, 1) := by decide +kernel
theorem dJ0_checkBoundsBeginEnd_23922_0 : decode cJ0_checkBoundsBeginEnd_23922 0 = .ok (.iload_n 0, 1) := by decide +kernel
theorem dJ0_checkBoundsBeginEnd_23922_1 : decode cJ0_checkBoundsBeginEnd_23922 1 = .ok (.iload_n 1, 1) := by decide +kernel
theorem dJ0_checkBoundsBeginEnd_23922_2 : decode cJ0_checkBoundsBeginEnd_23922 2 = .ok (.iload_n 2, 1) := by decide +kernel
theorem dJ0_checkBoundsBeginEnd_23922_3 : decode cJ0_checkBoundsBeginEnd_23922 3 = .ok (.getstatic 1053, 3) := by decide +kernel
theorem dJ0_checkBoundsBeginEnd_23922_6 : decode cJ0_checkBoundsBeginEnd_23922 6 = .ok (.invokestatic 1062, 3) := by decide +kernel
theorem dJ0_checkBoundsBeginEnd_23922_9 : decode cJ0_checkBoundsBeginEnd_23922 9 = .ok (.pop, 1) := by decide +kernel
theorem dJ0_checkBoundsBeginEnd_23922_10 : decode cJ0_checkBoundsBeginEnd_23922 10 = .ok (.return_, 1) := by decide +kernel
theorem dJ1_canEncode_9a6ad_0 : decode cJ1_canEncode_9a6ad 0 = .ok (.iload_n 0, 1) := by decide +kernel
theorem dJ1_canEncode_9a6ad_1 : decode cJ1_canEncode_9a6ad 1 = .ok (.ifCond .lt 14, 3) := by decide +kernel
theorem dJ1_canEncode_9a6ad_4 : decode cJ1_canEncode_9a6ad 4 = .ok (.iload_n 0, 1) := by decide +kernel
theorem dJ1_canEncode_9a6ad_5 : decode cJ1_canEncode_9a6ad 5 = .ok (.sipush 255, 3) := by decide +kernel
theorem dJ1_canEncode_9a6ad_8 : decode cJ1_canEncode_9a6ad 8 = .ok (.if_icmp .gt 7, 3) := by decide +kernel
theorem dJ1_canEncode_9a6ad_11 : decode cJ1_canEncode_9a6ad 11 = .ok (.iconst 1, 1) := by decide +kernel
theorem dJ1_canEncode_9a6ad_12 : decode cJ1_canEncode_9a6ad 12 = .ok (.goto 4, 3) := by decide +kernel
theorem dJ1_canEncode_9a6ad_15 : decode cJ1_canEncode_9a6ad 15 = .ok (.iconst 0, 1) := by decide +kernel
theorem dJ1_canEncode_9a6ad_16 : decode cJ1_canEncode_9a6ad 16 = .ok (.ireturn, 1) := by decide +kernel
theorem dJ1_indexOf_4cfef_0 : decode cJ1_indexOf_4cfef 0 = .ok (.iload_n 1, 1) := by decide +kernel
theorem dJ1_indexOf_4cfef_1 : decode cJ1_indexOf_4cfef 1 = .ok (.invokestatic 88, 3) := by decide +kernel
theorem dJ1_indexOf_4cfef_4 : decode cJ1_indexOf_4cfef 4 = .ok (.ifCond .ne 5, 3) := by decide +kernel
theorem dJ1_indexOf_4cfef_7 : decode cJ1_indexOf_4cfef 7 = .ok (.iconst (-1), 1) := by decide +kernel
theorem dJ1_indexOf_4cfef_8 : decode cJ1_indexOf_4cfef 8 = .ok (.ireturn, 1) := by decide +kernel
theorem dJ1_indexOf_4cfef_9 : decode cJ1_indexOf_4cfef 9 = .ok (.iload_n 2, 1) := by decide +kernel
theorem dJ1_indexOf_4cfef_10 : decode cJ1_indexOf_4cfef 10 = .ok (.iconst 0, 1) := by decide +kernel
theorem dJ1_indexOf_4cfef_11 : decode cJ1_indexOf_4cfef 11 = .ok (.invokestatic 92, 3) := by decide +kernel
theorem dJ1_indexOf_4cfef_14 : decode cJ1_indexOf_4cfef 14 = .ok (.istore_n 2, 1) := by decide +kernel
theorem dJ1_indexOf_4cfef_15 : decode cJ1_indexOf_4cfef 15 = .ok (.iload_n 3, 1) := by decide +kernel
theorem dJ1_indexOf_4cfef_16 : decode cJ1_indexOf_4cfef 16 = .ok (.aload_n 0, 1) := by decide +kernel
theorem dJ1_indexOf_4cfef_17 : decode cJ1_indexOf_4cfef 17 = .ok (.arraylength, 1) := by decide +kernel
theorem dJ1_indexOf_4cfef_18 : decode cJ1_indexOf_4cfef 18 = .ok (.invokestatic 38, 3) := by decide +kernel
theorem dJ1_indexOf_4cfef_21 : decode cJ1_indexOf_4cfef 21 = .ok (.istore_n 3, 1) := by decide +kernel
theorem dJ1_indexOf_4cfef_22 : decode cJ1_indexOf_4cfef 22 = .ok (.iload_n 2, 1) := by decide +kernel
theorem dJ1_indexOf_4cfef_23 : decode cJ1_indexOf_4cfef 23 = .ok (.iload_n 3, 1) := by decide +kernel
theorem dJ1_indexOf_4cfef_24 : decode cJ1_indexOf_4cfef 24 = .ok (.if_icmp .lt 5, 3) := by decide +kernel
theorem dJ1_indexOf_4cfef_27 : decode cJ1_indexOf_4cfef 27 = .ok (.iconst (-1), 1) := by decide +kernel
theorem dJ1_indexOf_4cfef_28 : decode cJ1_indexOf_4cfef 28 = .ok (.ireturn, 1) := by decide +kernel
theorem dJ1_indexOf_4cfef_29 : decode cJ1_indexOf_4cfef 29 = .ok (.aload_n 0, 1) := by decide +kernel
theorem dJ1_indexOf_4cfef_30 : decode cJ1_indexOf_4cfef 30 = .ok (.iload_n 1, 1) := by decide +kernel
theorem dJ1_indexOf_4cfef_31 : decode cJ1_indexOf_4cfef 31 = .ok (.iload_n 2, 1) := by decide +kernel
theorem dJ1_indexOf_4cfef_32 : decode cJ1_indexOf_4cfef 32 = .ok (.iload_n 3, 1) := by decide +kernel
theorem dJ1_indexOf_4cfef_33 : decode cJ1_indexOf_4cfef 33 = .ok (.invokestatic 95, 3) := by decide +kernel
theorem dJ1_indexOf_4cfef_36 : decode cJ1_indexOf_4cfef 36 = .ok (.ireturn, 1) := by decide +kernel
theorem dJ1_indexOfChar_4cfef_0 : decode cJ1_indexOfChar_4cfef 0 = .ok (.iload_n 1, 1) := by decide +kernel
theorem dJ1_indexOfChar_4cfef_1 : decode cJ1_indexOfChar_4cfef 1 = .ok (.i2b, 1) := by decide +kernel
theorem dJ1_indexOfChar_4cfef_2 : decode cJ1_indexOfChar_4cfef 2 = .ok (.istore 4, 2) := by decide +kernel
theorem dJ1_indexOfChar_4cfef_4 : decode cJ1_indexOfChar_4cfef 4 = .ok (.iload_n 2, 1) := by decide +kernel
theorem dJ1_indexOfChar_4cfef_5 : decode cJ1_indexOfChar_4cfef 5 = .ok (.istore 5, 2) := by decide +kernel
theorem dJ1_indexOfChar_4cfef_7 : decode cJ1_indexOfChar_4cfef 7 = .ok (.iload 5, 2) := by decide +kernel
theorem dJ1_indexOfChar_4cfef_9 : decode cJ1_indexOfChar_4cfef 9 = .ok (.iload_n 3, 1) := by decide +kernel
theorem dJ1_indexOfChar_4cfef_10 : decode cJ1_indexOfChar_4cfef 10 = .ok (.if_icmp .ge 21, 3) := by decide +kernel
theorem dJ1_indexOfChar_4cfef_13 : decode cJ1_indexOfChar_4cfef 13 = .ok (.aload_n 0, 1) := by decide +kernel
theorem dJ1_indexOfChar_4cfef_14 : decode cJ1_indexOfChar_4cfef 14 = .ok (.iload 5, 2) := by decide +kernel
theorem dJ1_indexOfChar_4cfef_16 : decode cJ1_indexOfChar_4cfef 16 = .ok (.baload, 1) := by decide +kernel
theorem dJ1_indexOfChar_4cfef_17 : decode cJ1_indexOfChar_4cfef 17 = .ok (.iload 4, 2) := by decide +kernel
theorem dJ1_indexOfChar_4cfef_19 : decode cJ1_indexOfChar_4cfef 19 = .ok (.if_icmp .ne 6, 3) := by decide +kernel
theorem dJ1_indexOfChar_4cfef_22 : decode cJ1_indexOfChar_4cfef 22 = .ok (.iload 5, 2) := by decide +kernel
theorem dJ1_indexOfChar_4cfef_24 : decode cJ1_indexOfChar_4cfef 24 = .ok (.ireturn, 1) := by decide +kernel
theorem dJ1_indexOfChar_4cfef_25 : decode cJ1_indexOfChar_4cfef 25 = .ok (.iinc 5 1, 3) := by decide +kernel
theorem dJ1_indexOfChar_4cfef_28 : decode cJ1_indexOfChar_4cfef 28 = .ok (.goto (-21), 3) := by decide +kernel
theorem dJ1_indexOfChar_4cfef_31 : decode cJ1_indexOfChar_4cfef 31 = .ok (.iconst (-1), 1) := by decide +kernel
theorem dJ1_indexOfChar_4cfef_32 : decode cJ1_indexOfChar_4cfef 32 = .ok (.ireturn, 1) := by decide +kernel
theorem dJ2_getChar_3b067_0 : decode cJ2_getChar_3b067 0 = .ok (.getstatic 44, 3) := by decide +kernel
theorem dJ2_getChar_3b067_3 : decode cJ2_getChar_3b067 3 = .ok (.ifCond .ne 25, 3) := by decide +kernel
theorem dJ2_getChar_3b067_6 : decode cJ2_getChar_3b067 6 = .ok (.iload_n 1, 1) := by decide +kernel
theorem dJ2_getChar_3b067_7 : decode cJ2_getChar_3b067 7 = .ok (.ifCond .lt 11, 3) := by decide +kernel
theorem dJ2_getChar_3b067_10 : decode cJ2_getChar_3b067 10 = .ok (.iload_n 1, 1) := by decide +kernel
theorem dJ2_getChar_3b067_11 : decode cJ2_getChar_3b067 11 = .ok (.aload_n 0, 1) := by decide +kernel
theorem dJ2_getChar_3b067_12 : decode cJ2_getChar_3b067 12 = .ok (.invokestatic 48, 3) := by decide +kernel
theorem dJ2_getChar_3b067_15 : decode cJ2_getChar_3b067 15 = .ok (.if_icmp .lt 13, 3) := by decide +kernel
theorem dJ2_getChar_3b067_18 : decode cJ2_getChar_3b067 18 = .ok (.new 52, 3) := by decide +kernel
theorem dJ2_getChar_3b067_21 : decode cJ2_getChar_3b067 21 = .ok (.dup, 1) := by decide +kernel
theorem dJ2_getChar_3b067_22 : decode cJ2_getChar_3b067 22 = .ok (.ldc 54, 2) := by decide +kernel
theorem dJ2_getChar_3b067_24 : decode cJ2_getChar_3b067 24 = .ok (.invokespecial 56, 3) := by decide +kernel
theorem dJ2_getChar_3b067_27 : decode cJ2_getChar_3b067 27 = .ok (.athrow, 1) := by decide +kernel
theorem dJ2_getChar_3b067_28 : decode cJ2_getChar_3b067 28 = .ok (.iload_n 1, 1) := by decide +kernel
theorem dJ2_getChar_3b067_29 : decode cJ2_getChar_3b067 29 = .ok (.iconst 1, 1) := by decide +kernel
theorem dJ2_getChar_3b067_30 : decode cJ2_getChar_3b067 30 = .ok (.ishl, 1) := by decide +kernel
theorem dJ2_getChar_3b067_31 : decode cJ2_getChar_3b067 31 = .ok (.istore_n 1, 1) := by decide +kernel
theorem dJ2_getChar_3b067_32 : decode cJ2_getChar_3b067 32 = .ok (.aload_n 0, 1) := by decide +kernel
theorem dJ2_getChar_3b067_33 : decode cJ2_getChar_3b067 33 = .ok (.iload_n 1, 1) := by decide +kernel
theorem dJ2_getChar_3b067_34 : decode cJ2_getChar_3b067 34 = .ok (.iinc 1 1, 3) := by decide +kernel
theorem dJ2_getChar_3b067_37 : decode cJ2_getChar_3b067 37 = .ok (.baload, 1) := by decide +kernel
theorem dJ2_getChar_3b067_38 : decode cJ2_getChar_3b067 38 = .ok (.sipush 255, 3) := by decide +kernel
theorem dJ2_getChar_3b067_41 : decode cJ2_getChar_3b067 41 = .ok (.iand, 1) := by decide +kernel
theorem dJ2_getChar_3b067_42 : decode cJ2_getChar_3b067 42 = .ok (.getstatic 59, 3) := by decide +kernel
theorem dJ2_getChar_3b067_45 : decode cJ2_getChar_3b067 45 = .ok (.ishl, 1) := by decide +kernel
theorem dJ2_getChar_3b067_46 : decode cJ2_getChar_3b067 46 = .ok (.aload_n 0, 1) := by decide +kernel
theorem dJ2_getChar_3b067_47 : decode cJ2_getChar_3b067 47 = .ok (.iload_n 1, 1) := by decide +kernel
theorem dJ2_getChar_3b067_48 : decode cJ2_getChar_3b067 48 = .ok (.baload, 1) := by decide +kernel
theorem dJ2_getChar_3b067_49 : decode cJ2_getChar_3b067 49 = .ok (.sipush 255, 3) := by decide +kernel
theorem dJ2_getChar_3b067_52 : decode cJ2_getChar_3b067 52 = .ok (.iand, 1) := by decide +kernel
theorem dJ2_getChar_3b067_53 : decode cJ2_getChar_3b067 53 = .ok (.getstatic 63, 3) := by decide +kernel
theorem dJ2_getChar_3b067_56 : decode cJ2_getChar_3b067 56 = .ok (.ishl, 1) := by decide +kernel
theorem dJ2_getChar_3b067_57 : decode cJ2_getChar_3b067 57 = .ok (.ior, 1) := by decide +kernel
theorem dJ2_getChar_3b067_58 : decode cJ2_getChar_3b067 58 = .ok (.i2c, 1) := by decide +kernel
theorem dJ2_getChar_3b067_59 : decode cJ2_getChar_3b067 59 = .ok (.ireturn, 1) := by decide +kernel
theorem dJ2_length_9d52b_0 : decode cJ2_length_9d52b 0 = .ok (.aload_n 0, 1) := by decide +kernel
theorem dJ2_length_9d52b_1 : decode cJ2_length_9d52b 1 = .ok (.arraylength, 1) := by decide +kernel
theorem dJ2_length_9d52b_2 : decode cJ2_length_9d52b 2 = .ok (.iconst 1, 1) := by decide +kernel
theorem dJ2_length_9d52b_3 : decode cJ2_length_9d52b 3 = .ok (.ishr, 1) := by decide +kernel
theorem dJ2_length_9d52b_4 : decode cJ2_length_9d52b 4 = .ok (.ireturn, 1) := by decide +kernel
theorem dJ2_indexOf_4cfef_0 : decode cJ2_indexOf_4cfef 0 = .ok (.iload_n 2, 1) := by decide +kernel
theorem dJ2_indexOf_4cfef_1 : decode cJ2_indexOf_4cfef 1 = .ok (.iconst 0, 1) := by decide +kernel
theorem dJ2_indexOf_4cfef_2 : decode cJ2_indexOf_4cfef 2 = .ok (.invokestatic 224, 3) := by decide +kernel
theorem dJ2_indexOf_4cfef_5 : decode cJ2_indexOf_4cfef 5 = .ok (.istore_n 2, 1) := by decide +kernel
theorem dJ2_indexOf_4cfef_6 : decode cJ2_indexOf_4cfef 6 = .ok (.iload_n 3, 1) := by decide +kernel
theorem dJ2_indexOf_4cfef_7 : decode cJ2_indexOf_4cfef 7 = .ok (.aload_n 0, 1) := by decide +kernel
theorem dJ2_indexOf_4cfef_8 : decode cJ2_indexOf_4cfef 8 = .ok (.arraylength, 1) := by decide +kernel
theorem dJ2_indexOf_4cfef_9 : decode cJ2_indexOf_4cfef 9 = .ok (.iconst 1, 1) := by decide +kernel
theorem dJ2_indexOf_4cfef_10 : decode cJ2_indexOf_4cfef 10 = .ok (.ishr, 1) := by decide +kernel
theorem dJ2_indexOf_4cfef_11 : decode cJ2_indexOf_4cfef 11 = .ok (.invokestatic 183, 3) := by decide +kernel
theorem dJ2_indexOf_4cfef_14 : decode cJ2_indexOf_4cfef 14 = .ok (.istore_n 3, 1) := by decide +kernel
theorem dJ2_indexOf_4cfef_15 : decode cJ2_indexOf_4cfef 15 = .ok (.iload_n 2, 1) := by decide +kernel
theorem dJ2_indexOf_4cfef_16 : decode cJ2_indexOf_4cfef 16 = .ok (.iload_n 3, 1) := by decide +kernel
theorem dJ2_indexOf_4cfef_17 : decode cJ2_indexOf_4cfef 17 = .ok (.if_icmp .lt 5, 3) := by decide +kernel
theorem dJ2_indexOf_4cfef_20 : decode cJ2_indexOf_4cfef 20 = .ok (.iconst (-1), 1) := by decide +kernel
theorem dJ2_indexOf_4cfef_21 : decode cJ2_indexOf_4cfef 21 = .ok (.ireturn, 1) := by decide +kernel
theorem dJ2_indexOf_4cfef_22 : decode cJ2_indexOf_4cfef 22 = .ok (.iload_n 1, 1) := by decide +kernel
theorem dJ2_indexOf_4cfef_23 : decode cJ2_indexOf_4cfef 23 = .ok (.ldc 227, 2) := by decide +kernel
theorem dJ2_indexOf_4cfef_25 : decode cJ2_indexOf_4cfef 25 = .ok (.if_icmp .ge 11, 3) := by decide +kernel
theorem dJ2_indexOf_4cfef_28 : decode cJ2_indexOf_4cfef 28 = .ok (.aload_n 0, 1) := by decide +kernel
theorem dJ2_indexOf_4cfef_29 : decode cJ2_indexOf_4cfef 29 = .ok (.iload_n 1, 1) := by decide +kernel
theorem dJ2_indexOf_4cfef_30 : decode cJ2_indexOf_4cfef 30 = .ok (.iload_n 2, 1) := by decide +kernel
theorem dJ2_indexOf_4cfef_31 : decode cJ2_indexOf_4cfef 31 = .ok (.iload_n 3, 1) := by decide +kernel
theorem dJ2_indexOf_4cfef_32 : decode cJ2_indexOf_4cfef 32 = .ok (.invokestatic 228, 3) := by decide +kernel
theorem dJ2_indexOf_4cfef_35 : decode cJ2_indexOf_4cfef 35 = .ok (.ireturn, 1) := by decide +kernel
theorem dJ2_indexOf_4cfef_36 : decode cJ2_indexOf_4cfef 36 = .ok (.aload_n 0, 1) := by decide +kernel
theorem dJ2_indexOf_4cfef_37 : decode cJ2_indexOf_4cfef 37 = .ok (.iload_n 1, 1) := by decide +kernel
theorem dJ2_indexOf_4cfef_38 : decode cJ2_indexOf_4cfef 38 = .ok (.iload_n 2, 1) := by decide +kernel
theorem dJ2_indexOf_4cfef_39 : decode cJ2_indexOf_4cfef 39 = .ok (.iload_n 3, 1) := by decide +kernel
theorem dJ2_indexOf_4cfef_40 : decode cJ2_indexOf_4cfef 40 = .ok (.invokestatic 232, 3) := by decide +kernel
theorem dJ2_indexOf_4cfef_43 : decode cJ2_indexOf_4cfef 43 = .ok (.ireturn, 1) := by decide +kernel
theorem dJ2_indexOfChar_4cfef_0 : decode cJ2_indexOfChar_4cfef 0 = .ok (.iload_n 2, 1) := by decide +kernel
theorem dJ2_indexOfChar_4cfef_1 : decode cJ2_indexOfChar_4cfef 1 = .ok (.iload_n 3, 1) := by decide +kernel
theorem dJ2_indexOfChar_4cfef_2 : decode cJ2_indexOfChar_4cfef 2 = .ok (.aload_n 0, 1) := by decide +kernel
theorem dJ2_indexOfChar_4cfef_3 : decode cJ2_indexOfChar_4cfef 3 = .ok (.invokestatic 96, 3) := by decide +kernel
theorem dJ2_indexOfChar_4cfef_6 : decode cJ2_indexOfChar_4cfef 6 = .ok (.aload_n 0, 1) := by decide +kernel
theorem dJ2_indexOfChar_4cfef_7 : decode cJ2_indexOfChar_4cfef 7 = .ok (.iload_n 1, 1) := by decide +kernel
theorem dJ2_indexOfChar_4cfef_8 : decode cJ2_indexOfChar_4cfef 8 = .ok (.iload_n 2, 1) := by decide +kernel
theorem dJ2_indexOfChar_4cfef_9 : decode cJ2_indexOfChar_4cfef 9 = .ok (.iload_n 3, 1) := by decide +kernel
theorem dJ2_indexOfChar_4cfef_10 : decode cJ2_indexOfChar_4cfef 10 = .ok (.invokestatic 244, 3) := by decide +kernel
theorem dJ2_indexOfChar_4cfef_13 : decode cJ2_indexOfChar_4cfef 13 = .ok (.ireturn, 1) := by decide +kernel
theorem dJ2_indexOfCharUnsafe_4cfef_0 : decode cJ2_indexOfCharUnsafe_4cfef 0 = .ok (.iload_n 2, 1) := by decide +kernel
theorem dJ2_indexOfCharUnsafe_4cfef_1 : decode cJ2_indexOfCharUnsafe_4cfef 1 = .ok (.istore 4, 2) := by decide +kernel
theorem dJ2_indexOfCharUnsafe_4cfef_3 : decode cJ2_indexOfCharUnsafe_4cfef 3 = .ok (.iload 4, 2) := by decide +kernel
theorem dJ2_indexOfCharUnsafe_4cfef_5 : decode cJ2_indexOfCharUnsafe_4cfef 5 = .ok (.iload_n 3, 1) := by decide +kernel
theorem dJ2_indexOfCharUnsafe_4cfef_6 : decode cJ2_indexOfCharUnsafe_4cfef 6 = .ok (.if_icmp .ge 22, 3) := by decide +kernel
theorem dJ2_indexOfCharUnsafe_4cfef_9 : decode cJ2_indexOfCharUnsafe_4cfef 9 = .ok (.aload_n 0, 1) := by decide +kernel
theorem dJ2_indexOfCharUnsafe_4cfef_10 : decode cJ2_indexOfCharUnsafe_4cfef 10 = .ok (.iload 4, 2) := by decide +kernel
theorem dJ2_indexOfCharUnsafe_4cfef_12 : decode cJ2_indexOfCharUnsafe_4cfef 12 = .ok (.invokestatic 71, 3) := by decide +kernel
theorem dJ2_indexOfCharUnsafe_4cfef_15 : decode cJ2_indexOfCharUnsafe_4cfef 15 = .ok (.iload_n 1, 1) := by decide +kernel
theorem dJ2_indexOfCharUnsafe_4cfef_16 : decode cJ2_indexOfCharUnsafe_4cfef 16 = .ok (.if_icmp .ne 6, 3) := by decide +kernel
theorem dJ2_indexOfCharUnsafe_4cfef_19 : decode cJ2_indexOfCharUnsafe_4cfef 19 = .ok (.iload 4, 2) := by decide +kernel
theorem dJ2_indexOfCharUnsafe_4cfef_21 : decode cJ2_indexOfCharUnsafe_4cfef 21 = .ok (.ireturn, 1) := by decide +kernel
theorem dJ2_indexOfCharUnsafe_4cfef_22 : decode cJ2_indexOfCharUnsafe_4cfef 22 = .ok (.iinc 4 1, 3) := by decide +kernel
theorem dJ2_indexOfCharUnsafe_4cfef_25 : decode cJ2_indexOfCharUnsafe_4cfef 25 = .ok (.goto (-22), 3) := by decide +kernel
theorem dJ2_indexOfCharUnsafe_4cfef_28 : decode cJ2_indexOfCharUnsafe_4cfef 28 = .ok (.iconst (-1), 1) := by decide +kernel
theorem dJ2_indexOfCharUnsafe_4cfef_29 : decode cJ2_indexOfCharUnsafe_4cfef 29 = .ok (.ireturn, 1) := by decide +kernel
theorem dJ2_indexOfSupplementary_4cfef_0 : decode cJ2_indexOfSupplementary_4cfef 0 = .ok (.iload_n 1, 1) := by decide +kernel
theorem dJ2_indexOfSupplementary_4cfef_1 : decode cJ2_indexOfSupplementary_4cfef 1 = .ok (.invokestatic 164, 3) := by decide +kernel
theorem dJ2_indexOfSupplementary_4cfef_4 : decode cJ2_indexOfSupplementary_4cfef 4 = .ok (.ifCond .eq 65, 3) := by decide +kernel
theorem dJ2_indexOfSupplementary_4cfef_7 : decode cJ2_indexOfSupplementary_4cfef 7 = .ok (.iload_n 1, 1) := by decide +kernel
theorem dJ2_indexOfSupplementary_4cfef_8 : decode cJ2_indexOfSupplementary_4cfef 8 = .ok (.invokestatic 157, 3) := by decide +kernel
theorem dJ2_indexOfSupplementary_4cfef_11 : decode cJ2_indexOfSupplementary_4cfef 11 = .ok (.istore 4, 2) := by decide +kernel
theorem dJ2_indexOfSupplementary_4cfef_13 : decode cJ2_indexOfSupplementary_4cfef 13 = .ok (.iload_n 1, 1) := by decide +kernel
theorem dJ2_indexOfSupplementary_4cfef_14 : decode cJ2_indexOfSupplementary_4cfef 14 = .ok (.invokestatic 161, 3) := by decide +kernel
theorem dJ2_indexOfSupplementary_4cfef_17 : decode cJ2_indexOfSupplementary_4cfef 17 = .ok (.istore 5, 2) := by decide +kernel
theorem dJ2_indexOfSupplementary_4cfef_19 : decode cJ2_indexOfSupplementary_4cfef 19 = .ok (.iload_n 2, 1) := by decide +kernel
theorem dJ2_indexOfSupplementary_4cfef_20 : decode cJ2_indexOfSupplementary_4cfef 20 = .ok (.iload_n 3, 1) := by decide +kernel
theorem dJ2_indexOfSupplementary_4cfef_21 : decode cJ2_indexOfSupplementary_4cfef 21 = .ok (.aload_n 0, 1) := by decide +kernel
theorem dJ2_indexOfSupplementary_4cfef_22 : decode cJ2_indexOfSupplementary_4cfef 22 = .ok (.invokestatic 96, 3) := by decide +kernel
theorem dJ2_indexOfSupplementary_4cfef_25 : decode cJ2_indexOfSupplementary_4cfef 25 = .ok (.iload_n 2, 1) := by decide +kernel
theorem dJ2_indexOfSupplementary_4cfef_26 : decode cJ2_indexOfSupplementary_4cfef 26 = .ok (.istore 6, 2) := by decide +kernel
theorem dJ2_indexOfSupplementary_4cfef_28 : decode cJ2_indexOfSupplementary_4cfef 28 = .ok (.iload 6, 2) := by decide +kernel
theorem dJ2_indexOfSupplementary_4cfef_30 : decode cJ2_indexOfSupplementary_4cfef 30 = .ok (.iload_n 3, 1) := by decide +kernel
theorem dJ2_indexOfSupplementary_4cfef_31 : decode cJ2_indexOfSupplementary_4cfef 31 = .ok (.iconst 1, 1) := by decide +kernel
theorem dJ2_indexOfSupplementary_4cfef_32 : decode cJ2_indexOfSupplementary_4cfef 32 = .ok (.isub, 1) := by decide +kernel
theorem dJ2_indexOfSupplementary_4cfef_33 : decode cJ2_indexOfSupplementary_4cfef 33 = .ok (.if_icmp .ge 36, 3) := by decide +kernel
theorem dJ2_indexOfSupplementary_4cfef_36 : decode cJ2_indexOfSupplementary_4cfef 36 = .ok (.aload_n 0, 1) := by decide +kernel
theorem dJ2_indexOfSupplementary_4cfef_37 : decode cJ2_indexOfSupplementary_4cfef 37 = .ok (.iload 6, 2) := by decide +kernel
theorem dJ2_indexOfSupplementary_4cfef_39 : decode cJ2_indexOfSupplementary_4cfef 39 = .ok (.invokestatic 71, 3) := by decide +kernel
theorem dJ2_indexOfSupplementary_4cfef_42 : decode cJ2_indexOfSupplementary_4cfef 42 = .ok (.iload 4, 2) := by decide +kernel
theorem dJ2_indexOfSupplementary_4cfef_44 : decode cJ2_indexOfSupplementary_4cfef 44 = .ok (.if_icmp .ne 19, 3) := by decide +kernel
theorem dJ2_indexOfSupplementary_4cfef_47 : decode cJ2_indexOfSupplementary_4cfef 47 = .ok (.aload_n 0, 1) := by decide +kernel
theorem dJ2_indexOfSupplementary_4cfef_48 : decode cJ2_indexOfSupplementary_4cfef 48 = .ok (.iload 6, 2) := by decide +kernel
theorem dJ2_indexOfSupplementary_4cfef_50 : decode cJ2_indexOfSupplementary_4cfef 50 = .ok (.iconst 1, 1) := by decide +kernel
theorem dJ2_indexOfSupplementary_4cfef_51 : decode cJ2_indexOfSupplementary_4cfef 51 = .ok (.iadd, 1) := by decide +kernel
theorem dJ2_indexOfSupplementary_4cfef_52 : decode cJ2_indexOfSupplementary_4cfef 52 = .ok (.invokestatic 71, 3) := by decide +kernel
theorem dJ2_indexOfSupplementary_4cfef_55 : decode cJ2_indexOfSupplementary_4cfef 55 = .ok (.iload 5, 2) := by decide +kernel
theorem dJ2_indexOfSupplementary_4cfef_57 : decode cJ2_indexOfSupplementary_4cfef 57 = .ok (.if_icmp .ne 6, 3) := by decide +kernel
theorem dJ2_indexOfSupplementary_4cfef_60 : decode cJ2_indexOfSupplementary_4cfef 60 = .ok (.iload 6, 2) := by decide +kernel
theorem dJ2_indexOfSupplementary_4cfef_62 : decode cJ2_indexOfSupplementary_4cfef 62 = .ok (.ireturn, 1) := by decide +kernel
theorem dJ2_indexOfSupplementary_4cfef_63 : decode cJ2_indexOfSupplementary_4cfef 63 = .ok (.iinc 6 1, 3) := by decide +kernel
theorem dJ2_indexOfSupplementary_4cfef_66 : decode cJ2_indexOfSupplementary_4cfef 66 = .ok (.goto (-38), 3) := by decide +kernel
theorem dJ2_indexOfSupplementary_4cfef_69 : decode cJ2_indexOfSupplementary_4cfef 69 = .ok (.iconst (-1), 1) := by decide +kernel
theorem dJ2_indexOfSupplementary_4cfef_70 : decode cJ2_indexOfSupplementary_4cfef 70 = .ok (.ireturn, 1) := by decide +kernel
theorem dJ2_checkBoundsBeginEnd_d044e_0 : decode cJ2_checkBoundsBeginEnd_d044e 0 = .ok (.iload_n 0, 1) := by decide +kernel
theorem dJ2_checkBoundsBeginEnd_d044e_1 : decode cJ2_checkBoundsBeginEnd_d044e 1 = .ok (.iload_n 1, 1) := by decide +kernel
theorem dJ2_checkBoundsBeginEnd_d044e_2 : decode cJ2_checkBoundsBeginEnd_d044e 2 = .ok (.aload_n 2, 1) := by decide +kernel
theorem dJ2_checkBoundsBeginEnd_d044e_3 : decode cJ2_checkBoundsBeginEnd_d044e 3 = .ok (.invokestatic 48, 3) := by decide +kernel
theorem dJ2_checkBoundsBeginEnd_d044e_6 : decode cJ2_checkBoundsBeginEnd_d044e 6 = .ok (.invokestatic 241, 3) := by decide +kernel
theorem dJ2_checkBoundsBeginEnd_d044e_9 : decode cJ2_checkBoundsBeginEnd_d044e 9 = .ok (.return_, 1) := by decide +kernel
theorem dJ7_fill_53178_0 : decode cJ7_fill_53178 0 = .ok (.iconst 0, 1) := by decide +kernel
theorem dJ7_fill_53178_1 : decode cJ7_fill_53178 1 = .ok (.istore_n 2, 1) := by decide +kernel
theorem dJ7_fill_53178_2 : decode cJ7_fill_53178 2 = .ok (.aload_n 0, 1) := by decide +kernel
theorem dJ7_fill_53178_3 : decode cJ7_fill_53178 3 = .ok (.arraylength, 1) := by decide +kernel
theorem dJ7_fill_53178_4 : decode cJ7_fill_53178 4 = .ok (.istore_n 3, 1) := by decide +kernel
theorem dJ7_fill_53178_5 : decode cJ7_fill_53178 5 = .ok (.iload_n 2, 1) := by decide +kernel
theorem dJ7_fill_53178_6 : decode cJ7_fill_53178 6 = .ok (.iload_n 3, 1) := by decide +kernel
theorem dJ7_fill_53178_7 : decode cJ7_fill_53178 7 = .ok (.if_icmp .ge 13, 3) := by decide +kernel
theorem dJ7_fill_53178_10 : decode cJ7_fill_53178 10 = .ok (.aload_n 0, 1) := by decide +kernel
theorem dJ7_fill_53178_11 : decode cJ7_fill_53178 11 = .ok (.iload_n 2, 1) := by decide +kernel
theorem dJ7_fill_53178_12 : decode cJ7_fill_53178 12 = .ok (.iload_n 1, 1) := by decide +kernel
theorem dJ7_fill_53178_13 : decode cJ7_fill_53178 13 = .ok (.iastore, 1) := by decide +kernel
theorem dJ7_fill_53178_14 : decode cJ7_fill_53178 14 = .ok (.iinc 2 1, 3) := by decide +kernel
theorem dJ7_fill_53178_17 : decode cJ7_fill_53178 17 = .ok (.goto (-12), 3) := by decide +kernel
theorem dJ7_fill_53178_20 : decode cJ7_fill_53178 20 = .ok (.return_, 1) := by decide +kernel
theorem dJ7_copyOf_59c91_0 : decode cJ7_copyOf_59c91 0 = .ok (.iload_n 1, 1) := by decide +kernel
theorem dJ7_copyOf_59c91_1 : decode cJ7_copyOf_59c91 1 = .ok (.aload_n 0, 1) := by decide +kernel
theorem dJ7_copyOf_59c91_2 : decode cJ7_copyOf_59c91 2 = .ok (.arraylength, 1) := by decide +kernel
theorem dJ7_copyOf_59c91_3 : decode cJ7_copyOf_59c91 3 = .ok (.if_icmp .ne 11, 3) := by decide +kernel
theorem dJ7_copyOf_59c91_6 : decode cJ7_copyOf_59c91 6 = .ok (.aload_n 0, 1) := by decide +kernel
theorem dJ7_copyOf_59c91_7 : decode cJ7_copyOf_59c91 7 = .ok (.invokevirtual 316, 3) := by decide +kernel
end
section
theorem dJ7_copyOf_59c91_10 : decode cJ7_copyOf_59c91 10 = .ok (.checkcast 317, 3) := by decide +kernel
theorem dJ7_copyOf_59c91_13 : decode cJ7_copyOf_59c91 13 = .ok (.areturn, 1) := by decide +kernel
theorem dJ7_copyOf_59c91_14 : decode cJ7_copyOf_59c91 14 = .ok (.iload_n 1, 1) := by decide +kernel
theorem dJ7_copyOf_59c91_15 : decode cJ7_copyOf_59c91 15 = .ok (.newarray .int, 2) := by decide +kernel
theorem dJ7_copyOf_59c91_17 : decode cJ7_copyOf_59c91 17 = .ok (.astore_n 2, 1) := by decide +kernel
theorem dJ7_copyOf_59c91_18 : decode cJ7_copyOf_59c91 18 = .ok (.aload_n 0, 1) := by decide +kernel
theorem dJ7_copyOf_59c91_19 : decode cJ7_copyOf_59c91 19 = .ok (.iconst 0, 1) := by decide +kernel
theorem dJ7_copyOf_59c91_20 : decode cJ7_copyOf_59c91 20 = .ok (.aload_n 2, 1) := by decide +kernel
theorem dJ7_copyOf_59c91_21 : decode cJ7_copyOf_59c91 21 = .ok (.iconst 0, 1) := by decide +kernel
theorem dJ7_copyOf_59c91_22 : decode cJ7_copyOf_59c91 22 = .ok (.aload_n 0, 1) := by decide +kernel
theorem dJ7_copyOf_59c91_23 : decode cJ7_copyOf_59c91 23 = .ok (.arraylength, 1) := by decide +kernel
theorem dJ7_copyOf_59c91_24 : decode cJ7_copyOf_59c91 24 = .ok (.iload_n 1, 1) := by decide +kernel
theorem dJ7_copyOf_59c91_25 : decode cJ7_copyOf_59c91 25 = .ok (.invokestatic 304, 3) := by decide +kernel
theorem dJ7_copyOf_59c91_28 : decode cJ7_copyOf_59c91 28 = .ok (.invokestatic 150, 3) := by decide +kernel
theorem dJ7_copyOf_59c91_31 : decode cJ7_copyOf_59c91 31 = .ok (.aload_n 2, 1) := by decide +kernel
theorem dJ7_copyOf_59c91_32 : decode cJ7_copyOf_59c91 32 = .ok (.areturn, 1) := by decide +kernel
theorem dJ3_checkFromToIndex_8c36e_0 : decode cJ3_checkFromToIndex_8c36e 0 = .ok (.iload_n 0, 1) := by decide +kernel
theorem dJ3_checkFromToIndex_8c36e_1 : decode cJ3_checkFromToIndex_8c36e 1 = .ok (.ifCond .lt 13, 3) := by decide +kernel
theorem dJ3_checkFromToIndex_8c36e_4 : decode cJ3_checkFromToIndex_8c36e 4 = .ok (.iload_n 0, 1) := by decide +kernel
theorem dJ3_checkFromToIndex_8c36e_5 : decode cJ3_checkFromToIndex_8c36e 5 = .ok (.iload_n 1, 1) := by decide +kernel
theorem dJ3_checkFromToIndex_8c36e_6 : decode cJ3_checkFromToIndex_8c36e 6 = .ok (.if_icmp .gt 8, 3) := by decide +kernel
theorem dJ3_checkFromToIndex_8c36e_9 : decode cJ3_checkFromToIndex_8c36e 9 = .ok (.iload_n 1, 1) := by decide +kernel
theorem dJ3_checkFromToIndex_8c36e_10 : decode cJ3_checkFromToIndex_8c36e 10 = .ok (.iload_n 2, 1) := by decide +kernel
theorem dJ3_checkFromToIndex_8c36e_11 : decode cJ3_checkFromToIndex_8c36e 11 = .ok (.if_icmp .le 11, 3) := by decide +kernel
theorem dJ3_checkFromToIndex_8c36e_14 : decode cJ3_checkFromToIndex_8c36e 14 = .ok (.aload_n 3, 1) := by decide +kernel
theorem dJ3_checkFromToIndex_8c36e_15 : decode cJ3_checkFromToIndex_8c36e 15 = .ok (.iload_n 0, 1) := by decide +kernel
theorem dJ3_checkFromToIndex_8c36e_16 : decode cJ3_checkFromToIndex_8c36e 16 = .ok (.iload_n 1, 1) := by decide +kernel
theorem dJ3_checkFromToIndex_8c36e_17 : decode cJ3_checkFromToIndex_8c36e 17 = .ok (.iload_n 2, 1) := by decide +kernel
theorem dJ3_checkFromToIndex_8c36e_18 : decode cJ3_checkFromToIndex_8c36e 18 = .ok (.invokestatic 99, 3) := by decide +kernel
theorem dJ3_checkFromToIndex_8c36e_21 : decode cJ3_checkFromToIndex_8c36e 21 = .ok (.athrow, 1) := by decide +kernel
theorem dJ3_checkFromToIndex_8c36e_22 : decode cJ3_checkFromToIndex_8c36e 22 = .ok (.iload_n 0, 1) := by decide +kernel
theorem dJ3_checkFromToIndex_8c36e_23 : decode cJ3_checkFromToIndex_8c36e 23 = .ok (.ireturn, 1) := by decide +kernel
theorem dL_man_0 : decode cL_man 0 = .ok (.aload_n 3, 1) := by decide +kernel
theorem dL_man_1 : decode cL_man 1 = .ok (.iconst 0, 1) := by decide +kernel
theorem dL_man_2 : decode cL_man 2 = .ok (.aload_n 0, 1) := by decide +kernel
theorem dL_man_3 : decode cL_man 3 = .ok (.iload_n 1, 1) := by decide +kernel
theorem dL_man_4 : decode cL_man 4 = .ok (.iload_n 2, 1) := by decide +kernel
theorem dL_man_5 : decode cL_man 5 = .ok (.invokevirtual 7, 3) := by decide +kernel
theorem dL_man_8 : decode cL_man 8 = .ok (.i2l, 1) := by decide +kernel
theorem dL_man_9 : decode cL_man 9 = .ok (.lastore, 1) := by decide +kernel
theorem dL_man_10 : decode cL_man 10 = .ok (.goto 7, 3) := by decide +kernel
theorem dL_man_13 : decode cL_man 13 = .ok (.astore 4, 2) := by decide +kernel
theorem dL_man_15 : decode cL_man 15 = .ok (.iconst 1, 1) := by decide +kernel
theorem dL_man_16 : decode cL_man 16 = .ok (.ireturn, 1) := by decide +kernel
theorem dL_man_17 : decode cL_man 17 = .ok (.iconst 0, 1) := by decide +kernel
theorem dL_man_18 : decode cL_man 18 = .ok (.ireturn, 1) := by decide +kernel
theorem dL_degrees_0 : decode cL_degrees 0 = .ok (.aload_n 2, 1) := by decide +kernel
theorem dL_degrees_1 : decode cL_degrees 1 = .ok (.iconst 0, 1) := by decide +kernel
theorem dL_degrees_2 : decode cL_degrees 2 = .ok (.aload_n 0, 1) := by decide +kernel
theorem dL_degrees_3 : decode cL_degrees 3 = .ok (.iload_n 1, 1) := by decide +kernel
theorem dL_degrees_4 : decode cL_degrees 4 = .ok (.invokevirtual 15, 3) := by decide +kernel
theorem dL_degrees_7 : decode cL_degrees 7 = .ok (.i2l, 1) := by decide +kernel
theorem dL_degrees_8 : decode cL_degrees 8 = .ok (.lastore, 1) := by decide +kernel
theorem dL_degrees_9 : decode cL_degrees 9 = .ok (.goto 6, 3) := by decide +kernel
theorem dL_degrees_12 : decode cL_degrees 12 = .ok (.astore_n 3, 1) := by decide +kernel
theorem dL_degrees_13 : decode cL_degrees 13 = .ok (.iconst 1, 1) := by decide +kernel
theorem dL_degrees_14 : decode cL_degrees 14 = .ok (.ireturn, 1) := by decide +kernel
theorem dL_degrees_15 : decode cL_degrees 15 = .ok (.iconst 0, 1) := by decide +kernel
theorem dL_degrees_16 : decode cL_degrees 16 = .ok (.ireturn, 1) := by decide +kernel
theorem dL_law_0 : decode cL_law 0 = .ok (.new 8, 3) := by decide +kernel
theorem dL_law_3 : decode cL_law 3 = .ok (.dup, 1) := by decide +kernel
theorem dL_law_4 : decode cL_law 4 = .ok (.invokespecial 19, 3) := by decide +kernel
theorem dL_law_7 : decode cL_law 7 = .ok (.astore_n 1, 1) := by decide +kernel
theorem dL_law_8 : decode cL_law 8 = .ok (.new 20, 3) := by decide +kernel
theorem dL_law_11 : decode cL_law 11 = .ok (.dup, 1) := by decide +kernel
theorem dL_law_12 : decode cL_law 12 = .ok (.invokespecial 22, 3) := by decide +kernel
theorem dL_law_15 : decode cL_law 15 = .ok (.astore_n 2, 1) := by decide +kernel
theorem dL_law_16 : decode cL_law 16 = .ok (.iconst 1, 1) := by decide +kernel
theorem dL_law_17 : decode cL_law 17 = .ok (.newarray .long, 2) := by decide +kernel
theorem dL_law_19 : decode cL_law 19 = .ok (.astore_n 3, 1) := by decide +kernel
theorem dL_law_20 : decode cL_law 20 = .ok (.iconst 0, 1) := by decide +kernel
theorem dL_law_21 : decode cL_law 21 = .ok (.istore 4, 2) := by decide +kernel
theorem dL_law_23 : decode cL_law 23 = .ok (.iload 4, 2) := by decide +kernel
theorem dL_law_25 : decode cL_law 25 = .ok (.aload_n 0, 1) := by decide +kernel
theorem dL_law_26 : decode cL_law 26 = .ok (.arraylength, 1) := by decide +kernel
theorem dL_law_27 : decode cL_law 27 = .ok (.bipush 7, 2) := by decide +kernel
theorem dL_law_29 : decode cL_law 29 = .ok (.isub, 1) := by decide +kernel
theorem dL_law_30 : decode cL_law 30 = .ok (.if_icmp .gt 1120, 3) := by decide +kernel
theorem dL_law_33 : decode cL_law 33 = .ok (.aload_n 0, 1) := by decide +kernel
theorem dL_law_34 : decode cL_law 34 = .ok (.iload 4, 2) := by decide +kernel
theorem dL_law_36 : decode cL_law 36 = .ok (.iaload, 1) := by decide +kernel
theorem dL_law_37 : decode cL_law 37 = .ok (.bipush 31, 2) := by decide +kernel
theorem dL_law_39 : decode cL_law 39 = .ok (.iand, 1) := by decide +kernel
theorem dL_law_40 : decode cL_law 40 = .ok (.tableswitch 1104 0 23 #[112, 259, 272, 309, 346, 414, 470, 507, 544, 581, 606, 631, 668, 705, 742, 779, 816, 853, 878, 903, 928, 965, 1026, 1079], 112) := by decide +kernel
theorem dL_law_152 : decode cL_law 152 = .ok (.aload_n 1, 1) := by decide +kernel
theorem dL_law_153 : decode cL_law 153 = .ok (.aload_n 0, 1) := by decide +kernel
theorem dL_law_154 : decode cL_law 154 = .ok (.iload 4, 2) := by decide +kernel
theorem dL_law_156 : decode cL_law 156 = .ok (.iconst 1, 1) := by decide +kernel
theorem dL_law_157 : decode cL_law 157 = .ok (.iadd, 1) := by decide +kernel
theorem dL_law_158 : decode cL_law 158 = .ok (.iaload, 1) := by decide +kernel
theorem dL_law_159 : decode cL_law 159 = .ok (.i2l, 1) := by decide +kernel
theorem dL_law_160 : decode cL_law 160 = .ok (.bipush 32, 2) := by decide +kernel
theorem dL_law_162 : decode cL_law 162 = .ok (.lshl, 1) := by decide +kernel
theorem dL_law_163 : decode cL_law 163 = .ok (.aload_n 0, 1) := by decide +kernel
theorem dL_law_164 : decode cL_law 164 = .ok (.iload 4, 2) := by decide +kernel
theorem dL_law_166 : decode cL_law 166 = .ok (.iconst 2, 1) := by decide +kernel
theorem dL_law_167 : decode cL_law 167 = .ok (.iadd, 1) := by decide +kernel
theorem dL_law_168 : decode cL_law 168 = .ok (.iaload, 1) := by decide +kernel
theorem dL_law_169 : decode cL_law 169 = .ok (.i2l, 1) := by decide +kernel
theorem dL_law_170 : decode cL_law 170 = .ok (.ldc2_w 23, 3) := by decide +kernel
theorem dL_law_173 : decode cL_law 173 = .ok (.land, 1) := by decide +kernel
theorem dL_law_174 : decode cL_law 174 = .ok (.lor, 1) := by decide +kernel
theorem dL_law_175 : decode cL_law 175 = .ok (.aload_n 0, 1) := by decide +kernel
theorem dL_law_176 : decode cL_law 176 = .ok (.iload 4, 2) := by decide +kernel
theorem dL_law_178 : decode cL_law 178 = .ok (.iconst 3, 1) := by decide +kernel
theorem dL_law_179 : decode cL_law 179 = .ok (.iadd, 1) := by decide +kernel
theorem dL_law_180 : decode cL_law 180 = .ok (.iaload, 1) := by decide +kernel
theorem dL_law_181 : decode cL_law 181 = .ok (.i2l, 1) := by decide +kernel
theorem dL_law_182 : decode cL_law 182 = .ok (.bipush 32, 2) := by decide +kernel
theorem dL_law_184 : decode cL_law 184 = .ok (.lshl, 1) := by decide +kernel
theorem dL_law_185 : decode cL_law 185 = .ok (.aload_n 0, 1) := by decide +kernel
theorem dL_law_186 : decode cL_law 186 = .ok (.iload 4, 2) := by decide +kernel
theorem dL_law_188 : decode cL_law 188 = .ok (.iconst 4, 1) := by decide +kernel
theorem dL_law_189 : decode cL_law 189 = .ok (.iadd, 1) := by decide +kernel
theorem dL_law_190 : decode cL_law 190 = .ok (.iaload, 1) := by decide +kernel
theorem dL_law_191 : decode cL_law 191 = .ok (.i2l, 1) := by decide +kernel
theorem dL_law_192 : decode cL_law 192 = .ok (.ldc2_w 23, 3) := by decide +kernel
theorem dL_law_195 : decode cL_law 195 = .ok (.land, 1) := by decide +kernel
theorem dL_law_196 : decode cL_law 196 = .ok (.lor, 1) := by decide +kernel
theorem dL_law_197 : decode cL_law 197 = .ok (.aload_n 0, 1) := by decide +kernel
theorem dL_law_198 : decode cL_law 198 = .ok (.iload 4, 2) := by decide +kernel
theorem dL_law_200 : decode cL_law 200 = .ok (.iconst 5, 1) := by decide +kernel
theorem dL_law_201 : decode cL_law 201 = .ok (.iadd, 1) := by decide +kernel
theorem dL_law_202 : decode cL_law 202 = .ok (.iaload, 1) := by decide +kernel
theorem dL_law_203 : decode cL_law 203 = .ok (.i2l, 1) := by decide +kernel
theorem dL_law_204 : decode cL_law 204 = .ok (.bipush 32, 2) := by decide +kernel
theorem dL_law_206 : decode cL_law 206 = .ok (.lshl, 1) := by decide +kernel
theorem dL_law_207 : decode cL_law 207 = .ok (.aload_n 0, 1) := by decide +kernel
theorem dL_law_208 : decode cL_law 208 = .ok (.iload 4, 2) := by decide +kernel
theorem dL_law_210 : decode cL_law 210 = .ok (.bipush 6, 2) := by decide +kernel
theorem dL_law_212 : decode cL_law 212 = .ok (.iadd, 1) := by decide +kernel
theorem dL_law_213 : decode cL_law 213 = .ok (.iaload, 1) := by decide +kernel
theorem dL_law_214 : decode cL_law 214 = .ok (.i2l, 1) := by decide +kernel
theorem dL_law_215 : decode cL_law 215 = .ok (.ldc2_w 23, 3) := by decide +kernel
theorem dL_law_218 : decode cL_law 218 = .ok (.land, 1) := by decide +kernel
theorem dL_law_219 : decode cL_law 219 = .ok (.lor, 1) := by decide +kernel
theorem dL_law_220 : decode cL_law 220 = .ok (.invokevirtual 25, 3) := by decide +kernel
theorem dL_law_223 : decode cL_law 223 = .ok (.aload_n 2, 1) := by decide +kernel
theorem dL_law_224 : decode cL_law 224 = .ok (.aload_n 0, 1) := by decide +kernel
theorem dL_law_225 : decode cL_law 225 = .ok (.iload 4, 2) := by decide +kernel
theorem dL_law_227 : decode cL_law 227 = .ok (.iconst 1, 1) := by decide +kernel
theorem dL_law_228 : decode cL_law 228 = .ok (.iadd, 1) := by decide +kernel
theorem dL_law_229 : decode cL_law 229 = .ok (.iaload, 1) := by decide +kernel
theorem dL_law_230 : decode cL_law 230 = .ok (.i2l, 1) := by decide +kernel
theorem dL_law_231 : decode cL_law 231 = .ok (.bipush 32, 2) := by decide +kernel
theorem dL_law_233 : decode cL_law 233 = .ok (.lshl, 1) := by decide +kernel
theorem dL_law_234 : decode cL_law 234 = .ok (.aload_n 0, 1) := by decide +kernel
theorem dL_law_235 : decode cL_law 235 = .ok (.iload 4, 2) := by decide +kernel
theorem dL_law_237 : decode cL_law 237 = .ok (.iconst 2, 1) := by decide +kernel
theorem dL_law_238 : decode cL_law 238 = .ok (.iadd, 1) := by decide +kernel
theorem dL_law_239 : decode cL_law 239 = .ok (.iaload, 1) := by decide +kernel
theorem dL_law_240 : decode cL_law 240 = .ok (.i2l, 1) := by decide +kernel
theorem dL_law_241 : decode cL_law 241 = .ok (.ldc2_w 23, 3) := by decide +kernel
theorem dL_law_244 : decode cL_law 244 = .ok (.land, 1) := by decide +kernel
theorem dL_law_245 : decode cL_law 245 = .ok (.lor, 1) := by decide +kernel
theorem dL_law_246 : decode cL_law 246 = .ok (.aload_n 0, 1) := by decide +kernel
theorem dL_law_247 : decode cL_law 247 = .ok (.iload 4, 2) := by decide +kernel
theorem dL_law_249 : decode cL_law 249 = .ok (.iconst 3, 1) := by decide +kernel
theorem dL_law_250 : decode cL_law 250 = .ok (.iadd, 1) := by decide +kernel
theorem dL_law_251 : decode cL_law 251 = .ok (.iaload, 1) := by decide +kernel
theorem dL_law_252 : decode cL_law 252 = .ok (.i2l, 1) := by decide +kernel
theorem dL_law_253 : decode cL_law 253 = .ok (.bipush 32, 2) := by decide +kernel
theorem dL_law_255 : decode cL_law 255 = .ok (.lshl, 1) := by decide +kernel
theorem dL_law_256 : decode cL_law 256 = .ok (.aload_n 0, 1) := by decide +kernel
theorem dL_law_257 : decode cL_law 257 = .ok (.iload 4, 2) := by decide +kernel
theorem dL_law_259 : decode cL_law 259 = .ok (.iconst 4, 1) := by decide +kernel
theorem dL_law_260 : decode cL_law 260 = .ok (.iadd, 1) := by decide +kernel
theorem dL_law_261 : decode cL_law 261 = .ok (.iaload, 1) := by decide +kernel
theorem dL_law_262 : decode cL_law 262 = .ok (.i2l, 1) := by decide +kernel
theorem dL_law_263 : decode cL_law 263 = .ok (.ldc2_w 23, 3) := by decide +kernel
theorem dL_law_266 : decode cL_law 266 = .ok (.land, 1) := by decide +kernel
theorem dL_law_267 : decode cL_law 267 = .ok (.lor, 1) := by decide +kernel
theorem dL_law_268 : decode cL_law 268 = .ok (.aload_n 0, 1) := by decide +kernel
theorem dL_law_269 : decode cL_law 269 = .ok (.iload 4, 2) := by decide +kernel
theorem dL_law_271 : decode cL_law 271 = .ok (.iconst 5, 1) := by decide +kernel
theorem dL_law_272 : decode cL_law 272 = .ok (.iadd, 1) := by decide +kernel
theorem dL_law_273 : decode cL_law 273 = .ok (.iaload, 1) := by decide +kernel
theorem dL_law_274 : decode cL_law 274 = .ok (.i2l, 1) := by decide +kernel
theorem dL_law_275 : decode cL_law 275 = .ok (.bipush 32, 2) := by decide +kernel
theorem dL_law_277 : decode cL_law 277 = .ok (.lshl, 1) := by decide +kernel
theorem dL_law_278 : decode cL_law 278 = .ok (.aload_n 0, 1) := by decide +kernel
theorem dL_law_279 : decode cL_law 279 = .ok (.iload 4, 2) := by decide +kernel
theorem dL_law_281 : decode cL_law 281 = .ok (.bipush 6, 2) := by decide +kernel
theorem dL_law_283 : decode cL_law 283 = .ok (.iadd, 1) := by decide +kernel
theorem dL_law_284 : decode cL_law 284 = .ok (.iaload, 1) := by decide +kernel
theorem dL_law_285 : decode cL_law 285 = .ok (.i2l, 1) := by decide +kernel
theorem dL_law_286 : decode cL_law 286 = .ok (.ldc2_w 23, 3) := by decide +kernel
theorem dL_law_289 : decode cL_law 289 = .ok (.land, 1) := by decide +kernel
theorem dL_law_290 : decode cL_law 290 = .ok (.lor, 1) := by decide +kernel
theorem dL_law_291 : decode cL_law 291 = .ok (.invokevirtual 29, 3) := by decide +kernel
theorem dL_law_294 : decode cL_law 294 = .ok (.if_icmp .eq 850, 3) := by decide +kernel
theorem dL_law_297 : decode cL_law 297 = .ok (.iconst 0, 1) := by decide +kernel
theorem dL_law_298 : decode cL_law 298 = .ok (.ireturn, 1) := by decide +kernel
theorem dL_law_299 : decode cL_law 299 = .ok (.aload_n 1, 1) := by decide +kernel
theorem dL_law_300 : decode cL_law 300 = .ok (.invokevirtual 30, 3) := by decide +kernel
theorem dL_law_303 : decode cL_law 303 = .ok (.aload_n 2, 1) := by decide +kernel
theorem dL_law_304 : decode cL_law 304 = .ok (.invokevirtual 34, 3) := by decide +kernel
theorem dL_law_307 : decode cL_law 307 = .ok (.if_icmp .eq 837, 3) := by decide +kernel
theorem dL_law_310 : decode cL_law 310 = .ok (.iconst 0, 1) := by decide +kernel
theorem dL_law_311 : decode cL_law 311 = .ok (.ireturn, 1) := by decide +kernel
theorem dL_law_312 : decode cL_law 312 = .ok (.aload_n 1, 1) := by decide +kernel
theorem dL_law_313 : decode cL_law 313 = .ok (.aload_n 0, 1) := by decide +kernel
theorem dL_law_314 : decode cL_law 314 = .ok (.iload 4, 2) := by decide +kernel
theorem dL_law_316 : decode cL_law 316 = .ok (.iconst 1, 1) := by decide +kernel
theorem dL_law_317 : decode cL_law 317 = .ok (.iadd, 1) := by decide +kernel
theorem dL_law_318 : decode cL_law 318 = .ok (.iaload, 1) := by decide +kernel
theorem dL_law_319 : decode cL_law 319 = .ok (.aload_n 0, 1) := by decide +kernel
theorem dL_law_320 : decode cL_law 320 = .ok (.iload 4, 2) := by decide +kernel
theorem dL_law_322 : decode cL_law 322 = .ok (.iconst 2, 1) := by decide +kernel
theorem dL_law_323 : decode cL_law 323 = .ok (.iadd, 1) := by decide +kernel
theorem dL_law_324 : decode cL_law 324 = .ok (.iaload, 1) := by decide +kernel
theorem dL_law_325 : decode cL_law 325 = .ok (.invokevirtual 35, 3) := by decide +kernel
theorem dL_law_328 : decode cL_law 328 = .ok (.aload_n 2, 1) := by decide +kernel
theorem dL_law_329 : decode cL_law 329 = .ok (.aload_n 0, 1) := by decide +kernel
theorem dL_law_330 : decode cL_law 330 = .ok (.iload 4, 2) := by decide +kernel
theorem dL_law_332 : decode cL_law 332 = .ok (.iconst 1, 1) := by decide +kernel
theorem dL_law_333 : decode cL_law 333 = .ok (.iadd, 1) := by decide +kernel
theorem dL_law_334 : decode cL_law 334 = .ok (.iaload, 1) := by decide +kernel
theorem dL_law_335 : decode cL_law 335 = .ok (.aload_n 0, 1) := by decide +kernel
theorem dL_law_336 : decode cL_law 336 = .ok (.iload 4, 2) := by decide +kernel
theorem dL_law_338 : decode cL_law 338 = .ok (.iconst 2, 1) := by decide +kernel
theorem dL_law_339 : decode cL_law 339 = .ok (.iadd, 1) := by decide +kernel
theorem dL_law_340 : decode cL_law 340 = .ok (.iaload, 1) := by decide +kernel
theorem dL_law_341 : decode cL_law 341 = .ok (.invokevirtual 38, 3) := by decide +kernel
theorem dL_law_344 : decode cL_law 344 = .ok (.if_icmp .eq 800, 3) := by decide +kernel
theorem dL_law_347 : decode cL_law 347 = .ok (.iconst 0, 1) := by decide +kernel
theorem dL_law_348 : decode cL_law 348 = .ok (.ireturn, 1) := by decide +kernel
theorem dL_law_349 : decode cL_law 349 = .ok (.aload_n 1, 1) := by decide +kernel
theorem dL_law_350 : decode cL_law 350 = .ok (.aload_n 0, 1) := by decide +kernel
theorem dL_law_351 : decode cL_law 351 = .ok (.iload 4, 2) := by decide +kernel
theorem dL_law_353 : decode cL_law 353 = .ok (.iconst 1, 1) := by decide +kernel
theorem dL_law_354 : decode cL_law 354 = .ok (.iadd, 1) := by decide +kernel
theorem dL_law_355 : decode cL_law 355 = .ok (.iaload, 1) := by decide +kernel
theorem dL_law_356 : decode cL_law 356 = .ok (.aload_n 0, 1) := by decide +kernel
theorem dL_law_357 : decode cL_law 357 = .ok (.iload 4, 2) := by decide +kernel
theorem dL_law_359 : decode cL_law 359 = .ok (.iconst 2, 1) := by decide +kernel
theorem dL_law_360 : decode cL_law 360 = .ok (.iadd, 1) := by decide +kernel
theorem dL_law_361 : decode cL_law 361 = .ok (.iaload, 1) := by decide +kernel
theorem dL_law_362 : decode cL_law 362 = .ok (.invokevirtual 39, 3) := by decide +kernel
theorem dL_law_365 : decode cL_law 365 = .ok (.aload_n 2, 1) := by decide +kernel
theorem dL_law_366 : decode cL_law 366 = .ok (.aload_n 0, 1) := by decide +kernel
theorem dL_law_367 : decode cL_law 367 = .ok (.iload 4, 2) := by decide +kernel
theorem dL_law_369 : decode cL_law 369 = .ok (.iconst 1, 1) := by decide +kernel
theorem dL_law_370 : decode cL_law 370 = .ok (.iadd, 1) := by decide +kernel
theorem dL_law_371 : decode cL_law 371 = .ok (.iaload, 1) := by decide +kernel
theorem dL_law_372 : decode cL_law 372 = .ok (.aload_n 0, 1) := by decide +kernel
theorem dL_law_373 : decode cL_law 373 = .ok (.iload 4, 2) := by decide +kernel
theorem dL_law_375 : decode cL_law 375 = .ok (.iconst 2, 1) := by decide +kernel
theorem dL_law_376 : decode cL_law 376 = .ok (.iadd, 1) := by decide +kernel
theorem dL_law_377 : decode cL_law 377 = .ok (.iaload, 1) := by decide +kernel
theorem dL_law_378 : decode cL_law 378 = .ok (.invokevirtual 42, 3) := by decide +kernel
theorem dL_law_381 : decode cL_law 381 = .ok (.if_icmp .eq 763, 3) := by decide +kernel
theorem dL_law_384 : decode cL_law 384 = .ok (.iconst 0, 1) := by decide +kernel
theorem dL_law_385 : decode cL_law 385 = .ok (.ireturn, 1) := by decide +kernel
theorem dL_law_386 : decode cL_law 386 = .ok (.aload_n 1, 1) := by decide +kernel
theorem dL_law_387 : decode cL_law 387 = .ok (.aload_n 0, 1) := by decide +kernel
theorem dL_law_388 : decode cL_law 388 = .ok (.iload 4, 2) := by decide +kernel
theorem dL_law_390 : decode cL_law 390 = .ok (.iconst 1, 1) := by decide +kernel
theorem dL_law_391 : decode cL_law 391 = .ok (.iadd, 1) := by decide +kernel
theorem dL_law_392 : decode cL_law 392 = .ok (.iaload, 1) := by decide +kernel
theorem dL_law_393 : decode cL_law 393 = .ok (.aload_n 0, 1) := by decide +kernel
theorem dL_law_394 : decode cL_law 394 = .ok (.iload 4, 2) := by decide +kernel
theorem dL_law_396 : decode cL_law 396 = .ok (.iconst 2, 1) := by decide +kernel
theorem dL_law_397 : decode cL_law 397 = .ok (.iadd, 1) := by decide +kernel
theorem dL_law_398 : decode cL_law 398 = .ok (.iaload, 1) := by decide +kernel
theorem dL_law_399 : decode cL_law 399 = .ok (.aload_n 3, 1) := by decide +kernel
theorem dL_law_400 : decode cL_law 400 = .ok (.invokestatic 43, 3) := by decide +kernel
theorem dL_law_403 : decode cL_law 403 = .ok (.istore 5, 2) := by decide +kernel
theorem dL_law_405 : decode cL_law 405 = .ok (.aload_n 2, 1) := by decide +kernel
theorem dL_law_406 : decode cL_law 406 = .ok (.aload_n 0, 1) := by decide +kernel
theorem dL_law_407 : decode cL_law 407 = .ok (.iload 4, 2) := by decide +kernel
theorem dL_law_409 : decode cL_law 409 = .ok (.iconst 1, 1) := by decide +kernel
theorem dL_law_410 : decode cL_law 410 = .ok (.iadd, 1) := by decide +kernel
theorem dL_law_411 : decode cL_law 411 = .ok (.iaload, 1) := by decide +kernel
theorem dL_law_412 : decode cL_law 412 = .ok (.aload_n 0, 1) := by decide +kernel
theorem dL_law_413 : decode cL_law 413 = .ok (.iload 4, 2) := by decide +kernel
theorem dL_law_415 : decode cL_law 415 = .ok (.iconst 2, 1) := by decide +kernel
theorem dL_law_416 : decode cL_law 416 = .ok (.iadd, 1) := by decide +kernel
theorem dL_law_417 : decode cL_law 417 = .ok (.iaload, 1) := by decide +kernel
theorem dL_law_418 : decode cL_law 418 = .ok (.invokevirtual 48, 3) := by decide +kernel
theorem dL_law_421 : decode cL_law 421 = .ok (.istore 6, 2) := by decide +kernel
theorem dL_law_423 : decode cL_law 423 = .ok (.aload_n 2, 1) := by decide +kernel
theorem dL_law_424 : decode cL_law 424 = .ok (.invokevirtual 49, 3) := by decide +kernel
theorem dL_law_427 : decode cL_law 427 = .ok (.iload 5, 2) := by decide +kernel
theorem dL_law_429 : decode cL_law 429 = .ok (.if_icmp .eq 5, 3) := by decide +kernel
theorem dL_law_432 : decode cL_law 432 = .ok (.iconst 0, 1) := by decide +kernel
theorem dL_law_433 : decode cL_law 433 = .ok (.ireturn, 1) := by decide +kernel
theorem dL_law_434 : decode cL_law 434 = .ok (.iload 5, 2) := by decide +kernel
theorem dL_law_436 : decode cL_law 436 = .ok (.ifCond .ne 15, 3) := by decide +kernel
theorem dL_law_439 : decode cL_law 439 = .ok (.aload_n 3, 1) := by decide +kernel
theorem dL_law_440 : decode cL_law 440 = .ok (.iconst 0, 1) := by decide +kernel
theorem dL_law_441 : decode cL_law 441 = .ok (.laload, 1) := by decide +kernel
theorem dL_law_442 : decode cL_law 442 = .ok (.iload 6, 2) := by decide +kernel
theorem dL_law_444 : decode cL_law 444 = .ok (.i2l, 1) := by decide +kernel
theorem dL_law_445 : decode cL_law 445 = .ok (.lcmp, 1) := by decide +kernel
theorem dL_law_446 : decode cL_law 446 = .ok (.ifCond .eq 5, 3) := by decide +kernel
theorem dL_law_449 : decode cL_law 449 = .ok (.iconst 0, 1) := by decide +kernel
theorem dL_law_450 : decode cL_law 450 = .ok (.ireturn, 1) := by decide +kernel
theorem dL_law_451 : decode cL_law 451 = .ok (.goto 693, 3) := by decide +kernel
theorem dL_law_454 : decode cL_law 454 = .ok (.aload_n 1, 1) := by decide +kernel
theorem dL_law_455 : decode cL_law 455 = .ok (.aload_n 0, 1) := by decide +kernel
theorem dL_law_456 : decode cL_law 456 = .ok (.iload 4, 2) := by decide +kernel
theorem dL_law_458 : decode cL_law 458 = .ok (.iconst 1, 1) := by decide +kernel
theorem dL_law_459 : decode cL_law 459 = .ok (.iadd, 1) := by decide +kernel
theorem dL_law_460 : decode cL_law 460 = .ok (.iaload, 1) := by decide +kernel
theorem dL_law_461 : decode cL_law 461 = .ok (.aload_n 3, 1) := by decide +kernel
theorem dL_law_462 : decode cL_law 462 = .ok (.invokestatic 52, 3) := by decide +kernel
theorem dL_law_465 : decode cL_law 465 = .ok (.istore 5, 2) := by decide +kernel
theorem dL_law_467 : decode cL_law 467 = .ok (.aload_n 2, 1) := by decide +kernel
theorem dL_law_468 : decode cL_law 468 = .ok (.aload_n 0, 1) := by decide +kernel
theorem dL_law_469 : decode cL_law 469 = .ok (.iload 4, 2) := by decide +kernel
theorem dL_law_471 : decode cL_law 471 = .ok (.iconst 1, 1) := by decide +kernel
theorem dL_law_472 : decode cL_law 472 = .ok (.iadd, 1) := by decide +kernel
theorem dL_law_473 : decode cL_law 473 = .ok (.iaload, 1) := by decide +kernel
theorem dL_law_474 : decode cL_law 474 = .ok (.invokevirtual 55, 3) := by decide +kernel
theorem dL_law_477 : decode cL_law 477 = .ok (.istore 6, 2) := by decide +kernel
theorem dL_law_479 : decode cL_law 479 = .ok (.aload_n 2, 1) := by decide +kernel
theorem dL_law_480 : decode cL_law 480 = .ok (.invokevirtual 49, 3) := by decide +kernel
theorem dL_law_483 : decode cL_law 483 = .ok (.iload 5, 2) := by decide +kernel
theorem dL_law_485 : decode cL_law 485 = .ok (.if_icmp .eq 5, 3) := by decide +kernel
theorem dL_law_488 : decode cL_law 488 = .ok (.iconst 0, 1) := by decide +kernel
theorem dL_law_489 : decode cL_law 489 = .ok (.ireturn, 1) := by decide +kernel
theorem dL_law_490 : decode cL_law 490 = .ok (.iload 5, 2) := by decide +kernel
theorem dL_law_492 : decode cL_law 492 = .ok (.ifCond .ne 15, 3) := by decide +kernel
theorem dL_law_495 : decode cL_law 495 = .ok (.aload_n 3, 1) := by decide +kernel
theorem dL_law_496 : decode cL_law 496 = .ok (.iconst 0, 1) := by decide +kernel
theorem dL_law_497 : decode cL_law 497 = .ok (.laload, 1) := by decide +kernel
theorem dL_law_498 : decode cL_law 498 = .ok (.iload 6, 2) := by decide +kernel
theorem dL_law_500 : decode cL_law 500 = .ok (.i2l, 1) := by decide +kernel
theorem dL_law_501 : decode cL_law 501 = .ok (.lcmp, 1) := by decide +kernel
theorem dL_law_502 : decode cL_law 502 = .ok (.ifCond .eq 5, 3) := by decide +kernel
theorem dL_law_505 : decode cL_law 505 = .ok (.iconst 0, 1) := by decide +kernel
theorem dL_law_506 : decode cL_law 506 = .ok (.ireturn, 1) := by decide +kernel
theorem dL_law_507 : decode cL_law 507 = .ok (.goto 637, 3) := by decide +kernel
theorem dL_law_510 : decode cL_law 510 = .ok (.aload_n 1, 1) := by decide +kernel
theorem dL_law_511 : decode cL_law 511 = .ok (.aload_n 0, 1) := by decide +kernel
theorem dL_law_512 : decode cL_law 512 = .ok (.iload 4, 2) := by decide +kernel
theorem dL_law_514 : decode cL_law 514 = .ok (.iconst 1, 1) := by decide +kernel
theorem dL_law_515 : decode cL_law 515 = .ok (.iadd, 1) := by decide +kernel
theorem dL_law_516 : decode cL_law 516 = .ok (.iaload, 1) := by decide +kernel
theorem dL_law_517 : decode cL_law 517 = .ok (.aload_n 0, 1) := by decide +kernel
theorem dL_law_518 : decode cL_law 518 = .ok (.iload 4, 2) := by decide +kernel
theorem dL_law_520 : decode cL_law 520 = .ok (.iconst 2, 1) := by decide +kernel
theorem dL_law_521 : decode cL_law 521 = .ok (.iadd, 1) := by decide +kernel
theorem dL_law_522 : decode cL_law 522 = .ok (.iaload, 1) := by decide +kernel
theorem dL_law_523 : decode cL_law 523 = .ok (.invokevirtual 56, 3) := by decide +kernel
theorem dL_law_526 : decode cL_law 526 = .ok (.aload_n 2, 1) := by decide +kernel
theorem dL_law_527 : decode cL_law 527 = .ok (.aload_n 0, 1) := by decide +kernel
theorem dL_law_528 : decode cL_law 528 = .ok (.iload 4, 2) := by decide +kernel
theorem dL_law_530 : decode cL_law 530 = .ok (.iconst 1, 1) := by decide +kernel
theorem dL_law_531 : decode cL_law 531 = .ok (.iadd, 1) := by decide +kernel
theorem dL_law_532 : decode cL_law 532 = .ok (.iaload, 1) := by decide +kernel
theorem dL_law_533 : decode cL_law 533 = .ok (.aload_n 0, 1) := by decide +kernel
theorem dL_law_534 : decode cL_law 534 = .ok (.iload 4, 2) := by decide +kernel
theorem dL_law_536 : decode cL_law 536 = .ok (.iconst 2, 1) := by decide +kernel
theorem dL_law_537 : decode cL_law 537 = .ok (.iadd, 1) := by decide +kernel
theorem dL_law_538 : decode cL_law 538 = .ok (.iaload, 1) := by decide +kernel
theorem dL_law_539 : decode cL_law 539 = .ok (.invokevirtual 59, 3) := by decide +kernel
theorem dL_law_542 : decode cL_law 542 = .ok (.if_icmp .eq 602, 3) := by decide +kernel
theorem dL_law_545 : decode cL_law 545 = .ok (.iconst 0, 1) := by decide +kernel
theorem dL_law_546 : decode cL_law 546 = .ok (.ireturn, 1) := by decide +kernel
theorem dL_law_547 : decode cL_law 547 = .ok (.aload_n 1, 1) := by decide +kernel
theorem dL_law_548 : decode cL_law 548 = .ok (.aload_n 0, 1) := by decide +kernel
theorem dL_law_549 : decode cL_law 549 = .ok (.iload 4, 2) := by decide +kernel
theorem dL_law_551 : decode cL_law 551 = .ok (.iconst 1, 1) := by decide +kernel
theorem dL_law_552 : decode cL_law 552 = .ok (.iadd, 1) := by decide +kernel
theorem dL_law_553 : decode cL_law 553 = .ok (.iaload, 1) := by decide +kernel
theorem dL_law_554 : decode cL_law 554 = .ok (.aload_n 0, 1) := by decide +kernel
theorem dL_law_555 : decode cL_law 555 = .ok (.iload 4, 2) := by decide +kernel
theorem dL_law_557 : decode cL_law 557 = .ok (.iconst 2, 1) := by decide +kernel
theorem dL_law_558 : decode cL_law 558 = .ok (.iadd, 1) := by decide +kernel
theorem dL_law_559 : decode cL_law 559 = .ok (.iaload, 1) := by decide +kernel
theorem dL_law_560 : decode cL_law 560 = .ok (.invokevirtual 60, 3) := by decide +kernel
theorem dL_law_563 : decode cL_law 563 = .ok (.aload_n 2, 1) := by decide +kernel
theorem dL_law_564 : decode cL_law 564 = .ok (.aload_n 0, 1) := by decide +kernel
theorem dL_law_565 : decode cL_law 565 = .ok (.iload 4, 2) := by decide +kernel
theorem dL_law_567 : decode cL_law 567 = .ok (.iconst 1, 1) := by decide +kernel
theorem dL_law_568 : decode cL_law 568 = .ok (.iadd, 1) := by decide +kernel
theorem dL_law_569 : decode cL_law 569 = .ok (.iaload, 1) := by decide +kernel
theorem dL_law_570 : decode cL_law 570 = .ok (.aload_n 0, 1) := by decide +kernel
theorem dL_law_571 : decode cL_law 571 = .ok (.iload 4, 2) := by decide +kernel
theorem dL_law_573 : decode cL_law 573 = .ok (.iconst 2, 1) := by decide +kernel
theorem dL_law_574 : decode cL_law 574 = .ok (.iadd, 1) := by decide +kernel
theorem dL_law_575 : decode cL_law 575 = .ok (.iaload, 1) := by decide +kernel
theorem dL_law_576 : decode cL_law 576 = .ok (.invokevirtual 64, 3) := by decide +kernel
theorem dL_law_579 : decode cL_law 579 = .ok (.if_icmp .eq 565, 3) := by decide +kernel
theorem dL_law_582 : decode cL_law 582 = .ok (.iconst 0, 1) := by decide +kernel
theorem dL_law_583 : decode cL_law 583 = .ok (.ireturn, 1) := by decide +kernel
theorem dL_law_584 : decode cL_law 584 = .ok (.aload_n 1, 1) := by decide +kernel
theorem dL_law_585 : decode cL_law 585 = .ok (.aload_n 0, 1) := by decide +kernel
theorem dL_law_586 : decode cL_law 586 = .ok (.iload 4, 2) := by decide +kernel
theorem dL_law_588 : decode cL_law 588 = .ok (.iconst 1, 1) := by decide +kernel
theorem dL_law_589 : decode cL_law 589 = .ok (.iadd, 1) := by decide +kernel
theorem dL_law_590 : decode cL_law 590 = .ok (.iaload, 1) := by decide +kernel
theorem dL_law_591 : decode cL_law 591 = .ok (.aload_n 0, 1) := by decide +kernel
theorem dL_law_592 : decode cL_law 592 = .ok (.iload 4, 2) := by decide +kernel
theorem dL_law_594 : decode cL_law 594 = .ok (.iconst 2, 1) := by decide +kernel
theorem dL_law_595 : decode cL_law 595 = .ok (.iadd, 1) := by decide +kernel
theorem dL_law_596 : decode cL_law 596 = .ok (.iaload, 1) := by decide +kernel
theorem dL_law_597 : decode cL_law 597 = .ok (.invokevirtual 65, 3) := by decide +kernel
theorem dL_law_600 : decode cL_law 600 = .ok (.aload_n 2, 1) := by decide +kernel
theorem dL_law_601 : decode cL_law 601 = .ok (.aload_n 0, 1) := by decide +kernel
theorem dL_law_602 : decode cL_law 602 = .ok (.iload 4, 2) := by decide +kernel
theorem dL_law_604 : decode cL_law 604 = .ok (.iconst 1, 1) := by decide +kernel
theorem dL_law_605 : decode cL_law 605 = .ok (.iadd, 1) := by decide +kernel
theorem dL_law_606 : decode cL_law 606 = .ok (.iaload, 1) := by decide +kernel
theorem dL_law_607 : decode cL_law 607 = .ok (.aload_n 0, 1) := by decide +kernel
theorem dL_law_608 : decode cL_law 608 = .ok (.iload 4, 2) := by decide +kernel
theorem dL_law_610 : decode cL_law 610 = .ok (.iconst 2, 1) := by decide +kernel
theorem dL_law_611 : decode cL_law 611 = .ok (.iadd, 1) := by decide +kernel
theorem dL_law_612 : decode cL_law 612 = .ok (.iaload, 1) := by decide +kernel
theorem dL_law_613 : decode cL_law 613 = .ok (.invokevirtual 68, 3) := by decide +kernel
theorem dL_law_616 : decode cL_law 616 = .ok (.if_icmp .eq 528, 3) := by decide +kernel
theorem dL_law_619 : decode cL_law 619 = .ok (.iconst 0, 1) := by decide +kernel
theorem dL_law_620 : decode cL_law 620 = .ok (.ireturn, 1) := by decide +kernel
theorem dL_law_621 : decode cL_law 621 = .ok (.aload_n 1, 1) := by decide +kernel
theorem dL_law_622 : decode cL_law 622 = .ok (.aload_n 0, 1) := by decide +kernel
theorem dL_law_623 : decode cL_law 623 = .ok (.iload 4, 2) := by decide +kernel
theorem dL_law_625 : decode cL_law 625 = .ok (.iconst 1, 1) := by decide +kernel
theorem dL_law_626 : decode cL_law 626 = .ok (.iadd, 1) := by decide +kernel
theorem dL_law_627 : decode cL_law 627 = .ok (.iaload, 1) := by decide +kernel
theorem dL_law_628 : decode cL_law 628 = .ok (.invokevirtual 69, 3) := by decide +kernel
theorem dL_law_631 : decode cL_law 631 = .ok (.aload_n 2, 1) := by decide +kernel
theorem dL_law_632 : decode cL_law 632 = .ok (.aload_n 0, 1) := by decide +kernel
theorem dL_law_633 : decode cL_law 633 = .ok (.iload 4, 2) := by decide +kernel
theorem dL_law_635 : decode cL_law 635 = .ok (.iconst 1, 1) := by decide +kernel
theorem dL_law_636 : decode cL_law 636 = .ok (.iadd, 1) := by decide +kernel
theorem dL_law_637 : decode cL_law 637 = .ok (.iaload, 1) := by decide +kernel
theorem dL_law_638 : decode cL_law 638 = .ok (.invokevirtual 73, 3) := by decide +kernel
theorem dL_law_641 : decode cL_law 641 = .ok (.if_icmp .eq 503, 3) := by decide +kernel
theorem dL_law_644 : decode cL_law 644 = .ok (.iconst 0, 1) := by decide +kernel
theorem dL_law_645 : decode cL_law 645 = .ok (.ireturn, 1) := by decide +kernel
theorem dL_law_646 : decode cL_law 646 = .ok (.aload_n 1, 1) := by decide +kernel
theorem dL_law_647 : decode cL_law 647 = .ok (.aload_n 0, 1) := by decide +kernel
theorem dL_law_648 : decode cL_law 648 = .ok (.iload 4, 2) := by decide +kernel
theorem dL_law_650 : decode cL_law 650 = .ok (.iconst 1, 1) := by decide +kernel
theorem dL_law_651 : decode cL_law 651 = .ok (.iadd, 1) := by decide +kernel
theorem dL_law_652 : decode cL_law 652 = .ok (.iaload, 1) := by decide +kernel
theorem dL_law_653 : decode cL_law 653 = .ok (.invokevirtual 74, 3) := by decide +kernel
theorem dL_law_656 : decode cL_law 656 = .ok (.aload_n 2, 1) := by decide +kernel
theorem dL_law_657 : decode cL_law 657 = .ok (.aload_n 0, 1) := by decide +kernel
theorem dL_law_658 : decode cL_law 658 = .ok (.iload 4, 2) := by decide +kernel
theorem dL_law_660 : decode cL_law 660 = .ok (.iconst 1, 1) := by decide +kernel
theorem dL_law_661 : decode cL_law 661 = .ok (.iadd, 1) := by decide +kernel
theorem dL_law_662 : decode cL_law 662 = .ok (.iaload, 1) := by decide +kernel
theorem dL_law_663 : decode cL_law 663 = .ok (.invokevirtual 77, 3) := by decide +kernel
theorem dL_law_666 : decode cL_law 666 = .ok (.if_icmp .eq 478, 3) := by decide +kernel
theorem dL_law_669 : decode cL_law 669 = .ok (.iconst 0, 1) := by decide +kernel
theorem dL_law_670 : decode cL_law 670 = .ok (.ireturn, 1) := by decide +kernel
theorem dL_law_671 : decode cL_law 671 = .ok (.aload_n 1, 1) := by decide +kernel
theorem dL_law_672 : decode cL_law 672 = .ok (.aload_n 0, 1) := by decide +kernel
theorem dL_law_673 : decode cL_law 673 = .ok (.iload 4, 2) := by decide +kernel
theorem dL_law_675 : decode cL_law 675 = .ok (.iconst 1, 1) := by decide +kernel
theorem dL_law_676 : decode cL_law 676 = .ok (.iadd, 1) := by decide +kernel
theorem dL_law_677 : decode cL_law 677 = .ok (.iaload, 1) := by decide +kernel
theorem dL_law_678 : decode cL_law 678 = .ok (.aload_n 0, 1) := by decide +kernel
theorem dL_law_679 : decode cL_law 679 = .ok (.iload 4, 2) := by decide +kernel
theorem dL_law_681 : decode cL_law 681 = .ok (.iconst 2, 1) := by decide +kernel
theorem dL_law_682 : decode cL_law 682 = .ok (.iadd, 1) := by decide +kernel
theorem dL_law_683 : decode cL_law 683 = .ok (.iaload, 1) := by decide +kernel
theorem dL_law_684 : decode cL_law 684 = .ok (.invokevirtual 78, 3) := by decide +kernel
theorem dL_law_687 : decode cL_law 687 = .ok (.aload_n 2, 1) := by decide +kernel
theorem dL_law_688 : decode cL_law 688 = .ok (.aload_n 0, 1) := by decide +kernel
theorem dL_law_689 : decode cL_law 689 = .ok (.iload 4, 2) := by decide +kernel
theorem dL_law_691 : decode cL_law 691 = .ok (.iconst 1, 1) := by decide +kernel
theorem dL_law_692 : decode cL_law 692 = .ok (.iadd, 1) := by decide +kernel
theorem dL_law_693 : decode cL_law 693 = .ok (.iaload, 1) := by decide +kernel
theorem dL_law_694 : decode cL_law 694 = .ok (.aload_n 0, 1) := by decide +kernel
theorem dL_law_695 : decode cL_law 695 = .ok (.iload 4, 2) := by decide +kernel
theorem dL_law_697 : decode cL_law 697 = .ok (.iconst 2, 1) := by decide +kernel
theorem dL_law_698 : decode cL_law 698 = .ok (.iadd, 1) := by decide +kernel
theorem dL_law_699 : decode cL_law 699 = .ok (.iaload, 1) := by decide +kernel
theorem dL_law_700 : decode cL_law 700 = .ok (.invokevirtual 81, 3) := by decide +kernel
theorem dL_law_703 : decode cL_law 703 = .ok (.if_icmp .eq 441, 3) := by decide +kernel
theorem dL_law_706 : decode cL_law 706 = .ok (.iconst 0, 1) := by decide +kernel
theorem dL_law_707 : decode cL_law 707 = .ok (.ireturn, 1) := by decide +kernel
theorem dL_law_708 : decode cL_law 708 = .ok (.aload_n 1, 1) := by decide +kernel
theorem dL_law_709 : decode cL_law 709 = .ok (.aload_n 0, 1) := by decide +kernel
theorem dL_law_710 : decode cL_law 710 = .ok (.iload 4, 2) := by decide +kernel
theorem dL_law_712 : decode cL_law 712 = .ok (.iconst 1, 1) := by decide +kernel
theorem dL_law_713 : decode cL_law 713 = .ok (.iadd, 1) := by decide +kernel
theorem dL_law_714 : decode cL_law 714 = .ok (.iaload, 1) := by decide +kernel
theorem dL_law_715 : decode cL_law 715 = .ok (.aload_n 0, 1) := by decide +kernel
theorem dL_law_716 : decode cL_law 716 = .ok (.iload 4, 2) := by decide +kernel
theorem dL_law_718 : decode cL_law 718 = .ok (.iconst 2, 1) := by decide +kernel
theorem dL_law_719 : decode cL_law 719 = .ok (.iadd, 1) := by decide +kernel
theorem dL_law_720 : decode cL_law 720 = .ok (.iaload, 1) := by decide +kernel
theorem dL_law_721 : decode cL_law 721 = .ok (.invokevirtual 82, 3) := by decide +kernel
theorem dL_law_724 : decode cL_law 724 = .ok (.aload_n 2, 1) := by decide +kernel
theorem dL_law_725 : decode cL_law 725 = .ok (.aload_n 0, 1) := by decide +kernel
theorem dL_law_726 : decode cL_law 726 = .ok (.iload 4, 2) := by decide +kernel
theorem dL_law_728 : decode cL_law 728 = .ok (.iconst 1, 1) := by decide +kernel
theorem dL_law_729 : decode cL_law 729 = .ok (.iadd, 1) := by decide +kernel
theorem dL_law_730 : decode cL_law 730 = .ok (.iaload, 1) := by decide +kernel
theorem dL_law_731 : decode cL_law 731 = .ok (.aload_n 0, 1) := by decide +kernel
theorem dL_law_732 : decode cL_law 732 = .ok (.iload 4, 2) := by decide +kernel
theorem dL_law_734 : decode cL_law 734 = .ok (.iconst 2, 1) := by decide +kernel
theorem dL_law_735 : decode cL_law 735 = .ok (.iadd, 1) := by decide +kernel
theorem dL_law_736 : decode cL_law 736 = .ok (.iaload, 1) := by decide +kernel
theorem dL_law_737 : decode cL_law 737 = .ok (.invokevirtual 85, 3) := by decide +kernel
theorem dL_law_740 : decode cL_law 740 = .ok (.if_icmp .eq 404, 3) := by decide +kernel
theorem dL_law_743 : decode cL_law 743 = .ok (.iconst 0, 1) := by decide +kernel
theorem dL_law_744 : decode cL_law 744 = .ok (.ireturn, 1) := by decide +kernel
theorem dL_law_745 : decode cL_law 745 = .ok (.aload_n 1, 1) := by decide +kernel
theorem dL_law_746 : decode cL_law 746 = .ok (.aload_n 0, 1) := by decide +kernel
theorem dL_law_747 : decode cL_law 747 = .ok (.iload 4, 2) := by decide +kernel
theorem dL_law_749 : decode cL_law 749 = .ok (.iconst 1, 1) := by decide +kernel
theorem dL_law_750 : decode cL_law 750 = .ok (.iadd, 1) := by decide +kernel
theorem dL_law_751 : decode cL_law 751 = .ok (.iaload, 1) := by decide +kernel
theorem dL_law_752 : decode cL_law 752 = .ok (.aload_n 0, 1) := by decide +kernel
theorem dL_law_753 : decode cL_law 753 = .ok (.iload 4, 2) := by decide +kernel
theorem dL_law_755 : decode cL_law 755 = .ok (.iconst 2, 1) := by decide +kernel
theorem dL_law_756 : decode cL_law 756 = .ok (.iadd, 1) := by decide +kernel
theorem dL_law_757 : decode cL_law 757 = .ok (.iaload, 1) := by decide +kernel
theorem dL_law_758 : decode cL_law 758 = .ok (.invokevirtual 86, 3) := by decide +kernel
theorem dL_law_761 : decode cL_law 761 = .ok (.aload_n 2, 1) := by decide +kernel
theorem dL_law_762 : decode cL_law 762 = .ok (.aload_n 0, 1) := by decide +kernel
theorem dL_law_763 : decode cL_law 763 = .ok (.iload 4, 2) := by decide +kernel
theorem dL_law_765 : decode cL_law 765 = .ok (.iconst 1, 1) := by decide +kernel
theorem dL_law_766 : decode cL_law 766 = .ok (.iadd, 1) := by decide +kernel
theorem dL_law_767 : decode cL_law 767 = .ok (.iaload, 1) := by decide +kernel
theorem dL_law_768 : decode cL_law 768 = .ok (.aload_n 0, 1) := by decide +kernel
theorem dL_law_769 : decode cL_law 769 = .ok (.iload 4, 2) := by decide +kernel
theorem dL_law_771 : decode cL_law 771 = .ok (.iconst 2, 1) := by decide +kernel
theorem dL_law_772 : decode cL_law 772 = .ok (.iadd, 1) := by decide +kernel
theorem dL_law_773 : decode cL_law 773 = .ok (.iaload, 1) := by decide +kernel
theorem dL_law_774 : decode cL_law 774 = .ok (.invokevirtual 89, 3) := by decide +kernel
theorem dL_law_777 : decode cL_law 777 = .ok (.if_icmp .eq 367, 3) := by decide +kernel
theorem dL_law_780 : decode cL_law 780 = .ok (.iconst 0, 1) := by decide +kernel
theorem dL_law_781 : decode cL_law 781 = .ok (.ireturn, 1) := by decide +kernel
theorem dL_law_782 : decode cL_law 782 = .ok (.aload_n 1, 1) := by decide +kernel
theorem dL_law_783 : decode cL_law 783 = .ok (.aload_n 0, 1) := by decide +kernel
theorem dL_law_784 : decode cL_law 784 = .ok (.iload 4, 2) := by decide +kernel
theorem dL_law_786 : decode cL_law 786 = .ok (.iconst 1, 1) := by decide +kernel
theorem dL_law_787 : decode cL_law 787 = .ok (.iadd, 1) := by decide +kernel
theorem dL_law_788 : decode cL_law 788 = .ok (.iaload, 1) := by decide +kernel
theorem dL_law_789 : decode cL_law 789 = .ok (.aload_n 0, 1) := by decide +kernel
theorem dL_law_790 : decode cL_law 790 = .ok (.iload 4, 2) := by decide +kernel
theorem dL_law_792 : decode cL_law 792 = .ok (.iconst 2, 1) := by decide +kernel
theorem dL_law_793 : decode cL_law 793 = .ok (.iadd, 1) := by decide +kernel
theorem dL_law_794 : decode cL_law 794 = .ok (.iaload, 1) := by decide +kernel
theorem dL_law_795 : decode cL_law 795 = .ok (.invokevirtual 90, 3) := by decide +kernel
theorem dL_law_798 : decode cL_law 798 = .ok (.aload_n 2, 1) := by decide +kernel
theorem dL_law_799 : decode cL_law 799 = .ok (.aload_n 0, 1) := by decide +kernel
theorem dL_law_800 : decode cL_law 800 = .ok (.iload 4, 2) := by decide +kernel
theorem dL_law_802 : decode cL_law 802 = .ok (.iconst 1, 1) := by decide +kernel
theorem dL_law_803 : decode cL_law 803 = .ok (.iadd, 1) := by decide +kernel
theorem dL_law_804 : decode cL_law 804 = .ok (.iaload, 1) := by decide +kernel
theorem dL_law_805 : decode cL_law 805 = .ok (.aload_n 0, 1) := by decide +kernel
theorem dL_law_806 : decode cL_law 806 = .ok (.iload 4, 2) := by decide +kernel
theorem dL_law_808 : decode cL_law 808 = .ok (.iconst 2, 1) := by decide +kernel
theorem dL_law_809 : decode cL_law 809 = .ok (.iadd, 1) := by decide +kernel
theorem dL_law_810 : decode cL_law 810 = .ok (.iaload, 1) := by decide +kernel
theorem dL_law_811 : decode cL_law 811 = .ok (.invokevirtual 93, 3) := by decide +kernel
theorem dL_law_814 : decode cL_law 814 = .ok (.if_icmp .eq 330, 3) := by decide +kernel
theorem dL_law_817 : decode cL_law 817 = .ok (.iconst 0, 1) := by decide +kernel
theorem dL_law_818 : decode cL_law 818 = .ok (.ireturn, 1) := by decide +kernel
theorem dL_law_819 : decode cL_law 819 = .ok (.aload_n 1, 1) := by decide +kernel
theorem dL_law_820 : decode cL_law 820 = .ok (.aload_n 0, 1) := by decide +kernel
theorem dL_law_821 : decode cL_law 821 = .ok (.iload 4, 2) := by decide +kernel
theorem dL_law_823 : decode cL_law 823 = .ok (.iconst 1, 1) := by decide +kernel
theorem dL_law_824 : decode cL_law 824 = .ok (.iadd, 1) := by decide +kernel
theorem dL_law_825 : decode cL_law 825 = .ok (.iaload, 1) := by decide +kernel
theorem dL_law_826 : decode cL_law 826 = .ok (.aload_n 0, 1) := by decide +kernel
theorem dL_law_827 : decode cL_law 827 = .ok (.iload 4, 2) := by decide +kernel
theorem dL_law_829 : decode cL_law 829 = .ok (.iconst 2, 1) := by decide +kernel
theorem dL_law_830 : decode cL_law 830 = .ok (.iadd, 1) := by decide +kernel
theorem dL_law_831 : decode cL_law 831 = .ok (.iaload, 1) := by decide +kernel
theorem dL_law_832 : decode cL_law 832 = .ok (.invokevirtual 94, 3) := by decide +kernel
theorem dL_law_835 : decode cL_law 835 = .ok (.aload_n 2, 1) := by decide +kernel
theorem dL_law_836 : decode cL_law 836 = .ok (.aload_n 0, 1) := by decide +kernel
theorem dL_law_837 : decode cL_law 837 = .ok (.iload 4, 2) := by decide +kernel
theorem dL_law_839 : decode cL_law 839 = .ok (.iconst 1, 1) := by decide +kernel
theorem dL_law_840 : decode cL_law 840 = .ok (.iadd, 1) := by decide +kernel
theorem dL_law_841 : decode cL_law 841 = .ok (.iaload, 1) := by decide +kernel
theorem dL_law_842 : decode cL_law 842 = .ok (.aload_n 0, 1) := by decide +kernel
theorem dL_law_843 : decode cL_law 843 = .ok (.iload 4, 2) := by decide +kernel
theorem dL_law_845 : decode cL_law 845 = .ok (.iconst 2, 1) := by decide +kernel
theorem dL_law_846 : decode cL_law 846 = .ok (.iadd, 1) := by decide +kernel
theorem dL_law_847 : decode cL_law 847 = .ok (.iaload, 1) := by decide +kernel
theorem dL_law_848 : decode cL_law 848 = .ok (.invokevirtual 97, 3) := by decide +kernel
theorem dL_law_851 : decode cL_law 851 = .ok (.if_icmp .eq 293, 3) := by decide +kernel
theorem dL_law_854 : decode cL_law 854 = .ok (.iconst 0, 1) := by decide +kernel
theorem dL_law_855 : decode cL_law 855 = .ok (.ireturn, 1) := by decide +kernel
theorem dL_law_856 : decode cL_law 856 = .ok (.aload_n 1, 1) := by decide +kernel
theorem dL_law_857 : decode cL_law 857 = .ok (.aload_n 0, 1) := by decide +kernel
theorem dL_law_858 : decode cL_law 858 = .ok (.iload 4, 2) := by decide +kernel
theorem dL_law_860 : decode cL_law 860 = .ok (.iconst 1, 1) := by decide +kernel
theorem dL_law_861 : decode cL_law 861 = .ok (.iadd, 1) := by decide +kernel
theorem dL_law_862 : decode cL_law 862 = .ok (.iaload, 1) := by decide +kernel
theorem dL_law_863 : decode cL_law 863 = .ok (.aload_n 0, 1) := by decide +kernel
theorem dL_law_864 : decode cL_law 864 = .ok (.iload 4, 2) := by decide +kernel
theorem dL_law_866 : decode cL_law 866 = .ok (.iconst 2, 1) := by decide +kernel
theorem dL_law_867 : decode cL_law 867 = .ok (.iadd, 1) := by decide +kernel
theorem dL_law_868 : decode cL_law 868 = .ok (.iaload, 1) := by decide +kernel
theorem dL_law_869 : decode cL_law 869 = .ok (.invokevirtual 98, 3) := by decide +kernel
theorem dL_law_872 : decode cL_law 872 = .ok (.aload_n 2, 1) := by decide +kernel
theorem dL_law_873 : decode cL_law 873 = .ok (.aload_n 0, 1) := by decide +kernel
theorem dL_law_874 : decode cL_law 874 = .ok (.iload 4, 2) := by decide +kernel
theorem dL_law_876 : decode cL_law 876 = .ok (.iconst 1, 1) := by decide +kernel
theorem dL_law_877 : decode cL_law 877 = .ok (.iadd, 1) := by decide +kernel
theorem dL_law_878 : decode cL_law 878 = .ok (.iaload, 1) := by decide +kernel
theorem dL_law_879 : decode cL_law 879 = .ok (.aload_n 0, 1) := by decide +kernel
theorem dL_law_880 : decode cL_law 880 = .ok (.iload 4, 2) := by decide +kernel
theorem dL_law_882 : decode cL_law 882 = .ok (.iconst 2, 1) := by decide +kernel
theorem dL_law_883 : decode cL_law 883 = .ok (.iadd, 1) := by decide +kernel
theorem dL_law_884 : decode cL_law 884 = .ok (.iaload, 1) := by decide +kernel
theorem dL_law_885 : decode cL_law 885 = .ok (.invokevirtual 101, 3) := by decide +kernel
theorem dL_law_888 : decode cL_law 888 = .ok (.if_icmp .eq 256, 3) := by decide +kernel
theorem dL_law_891 : decode cL_law 891 = .ok (.iconst 0, 1) := by decide +kernel
theorem dL_law_892 : decode cL_law 892 = .ok (.ireturn, 1) := by decide +kernel
theorem dL_law_893 : decode cL_law 893 = .ok (.aload_n 1, 1) := by decide +kernel
theorem dL_law_894 : decode cL_law 894 = .ok (.aload_n 0, 1) := by decide +kernel
theorem dL_law_895 : decode cL_law 895 = .ok (.iload 4, 2) := by decide +kernel
theorem dL_law_897 : decode cL_law 897 = .ok (.iconst 1, 1) := by decide +kernel
theorem dL_law_898 : decode cL_law 898 = .ok (.iadd, 1) := by decide +kernel
theorem dL_law_899 : decode cL_law 899 = .ok (.iaload, 1) := by decide +kernel
theorem dL_law_900 : decode cL_law 900 = .ok (.invokevirtual 102, 3) := by decide +kernel
theorem dL_law_903 : decode cL_law 903 = .ok (.aload_n 2, 1) := by decide +kernel
theorem dL_law_904 : decode cL_law 904 = .ok (.aload_n 0, 1) := by decide +kernel
theorem dL_law_905 : decode cL_law 905 = .ok (.iload 4, 2) := by decide +kernel
theorem dL_law_907 : decode cL_law 907 = .ok (.iconst 1, 1) := by decide +kernel
theorem dL_law_908 : decode cL_law 908 = .ok (.iadd, 1) := by decide +kernel
theorem dL_law_909 : decode cL_law 909 = .ok (.iaload, 1) := by decide +kernel
theorem dL_law_910 : decode cL_law 910 = .ok (.invokevirtual 105, 3) := by decide +kernel
theorem dL_law_913 : decode cL_law 913 = .ok (.if_icmp .eq 231, 3) := by decide +kernel
theorem dL_law_916 : decode cL_law 916 = .ok (.iconst 0, 1) := by decide +kernel
theorem dL_law_917 : decode cL_law 917 = .ok (.ireturn, 1) := by decide +kernel
theorem dL_law_918 : decode cL_law 918 = .ok (.aload_n 1, 1) := by decide +kernel
theorem dL_law_919 : decode cL_law 919 = .ok (.aload_n 0, 1) := by decide +kernel
theorem dL_law_920 : decode cL_law 920 = .ok (.iload 4, 2) := by decide +kernel
theorem dL_law_922 : decode cL_law 922 = .ok (.iconst 1, 1) := by decide +kernel
theorem dL_law_923 : decode cL_law 923 = .ok (.iadd, 1) := by decide +kernel
theorem dL_law_924 : decode cL_law 924 = .ok (.iaload, 1) := by decide +kernel
theorem dL_law_925 : decode cL_law 925 = .ok (.invokevirtual 106, 3) := by decide +kernel
theorem dL_law_928 : decode cL_law 928 = .ok (.aload_n 2, 1) := by decide +kernel
theorem dL_law_929 : decode cL_law 929 = .ok (.aload_n 0, 1) := by decide +kernel
theorem dL_law_930 : decode cL_law 930 = .ok (.iload 4, 2) := by decide +kernel
theorem dL_law_932 : decode cL_law 932 = .ok (.iconst 1, 1) := by decide +kernel
theorem dL_law_933 : decode cL_law 933 = .ok (.iadd, 1) := by decide +kernel
theorem dL_law_934 : decode cL_law 934 = .ok (.iaload, 1) := by decide +kernel
theorem dL_law_935 : decode cL_law 935 = .ok (.invokevirtual 109, 3) := by decide +kernel
theorem dL_law_938 : decode cL_law 938 = .ok (.if_icmp .eq 206, 3) := by decide +kernel
theorem dL_law_941 : decode cL_law 941 = .ok (.iconst 0, 1) := by decide +kernel
theorem dL_law_942 : decode cL_law 942 = .ok (.ireturn, 1) := by decide +kernel
theorem dL_law_943 : decode cL_law 943 = .ok (.aload_n 1, 1) := by decide +kernel
theorem dL_law_944 : decode cL_law 944 = .ok (.aload_n 0, 1) := by decide +kernel
theorem dL_law_945 : decode cL_law 945 = .ok (.iload 4, 2) := by decide +kernel
theorem dL_law_947 : decode cL_law 947 = .ok (.iconst 1, 1) := by decide +kernel
theorem dL_law_948 : decode cL_law 948 = .ok (.iadd, 1) := by decide +kernel
theorem dL_law_949 : decode cL_law 949 = .ok (.iaload, 1) := by decide +kernel
theorem dL_law_950 : decode cL_law 950 = .ok (.invokevirtual 110, 3) := by decide +kernel
theorem dL_law_953 : decode cL_law 953 = .ok (.aload_n 2, 1) := by decide +kernel
theorem dL_law_954 : decode cL_law 954 = .ok (.aload_n 0, 1) := by decide +kernel
theorem dL_law_955 : decode cL_law 955 = .ok (.iload 4, 2) := by decide +kernel
theorem dL_law_957 : decode cL_law 957 = .ok (.iconst 1, 1) := by decide +kernel
theorem dL_law_958 : decode cL_law 958 = .ok (.iadd, 1) := by decide +kernel
theorem dL_law_959 : decode cL_law 959 = .ok (.iaload, 1) := by decide +kernel
theorem dL_law_960 : decode cL_law 960 = .ok (.invokevirtual 113, 3) := by decide +kernel
theorem dL_law_963 : decode cL_law 963 = .ok (.if_icmp .eq 181, 3) := by decide +kernel
theorem dL_law_966 : decode cL_law 966 = .ok (.iconst 0, 1) := by decide +kernel
theorem dL_law_967 : decode cL_law 967 = .ok (.ireturn, 1) := by decide +kernel
theorem dL_law_968 : decode cL_law 968 = .ok (.aload_n 1, 1) := by decide +kernel
theorem dL_law_969 : decode cL_law 969 = .ok (.aload_n 0, 1) := by decide +kernel
theorem dL_law_970 : decode cL_law 970 = .ok (.iload 4, 2) := by decide +kernel
theorem dL_law_972 : decode cL_law 972 = .ok (.iconst 1, 1) := by decide +kernel
theorem dL_law_973 : decode cL_law 973 = .ok (.iadd, 1) := by decide +kernel
theorem dL_law_974 : decode cL_law 974 = .ok (.iaload, 1) := by decide +kernel
theorem dL_law_975 : decode cL_law 975 = .ok (.aload_n 0, 1) := by decide +kernel
theorem dL_law_976 : decode cL_law 976 = .ok (.iload 4, 2) := by decide +kernel
theorem dL_law_978 : decode cL_law 978 = .ok (.iconst 2, 1) := by decide +kernel
theorem dL_law_979 : decode cL_law 979 = .ok (.iadd, 1) := by decide +kernel
theorem dL_law_980 : decode cL_law 980 = .ok (.iaload, 1) := by decide +kernel
theorem dL_law_981 : decode cL_law 981 = .ok (.invokevirtual 114, 3) := by decide +kernel
theorem dL_law_984 : decode cL_law 984 = .ok (.aload_n 2, 1) := by decide +kernel
theorem dL_law_985 : decode cL_law 985 = .ok (.aload_n 0, 1) := by decide +kernel
theorem dL_law_986 : decode cL_law 986 = .ok (.iload 4, 2) := by decide +kernel
theorem dL_law_988 : decode cL_law 988 = .ok (.iconst 1, 1) := by decide +kernel
theorem dL_law_989 : decode cL_law 989 = .ok (.iadd, 1) := by decide +kernel
theorem dL_law_990 : decode cL_law 990 = .ok (.iaload, 1) := by decide +kernel
theorem dL_law_991 : decode cL_law 991 = .ok (.aload_n 0, 1) := by decide +kernel
theorem dL_law_992 : decode cL_law 992 = .ok (.iload 4, 2) := by decide +kernel
theorem dL_law_994 : decode cL_law 994 = .ok (.iconst 2, 1) := by decide +kernel
theorem dL_law_995 : decode cL_law 995 = .ok (.iadd, 1) := by decide +kernel
theorem dL_law_996 : decode cL_law 996 = .ok (.iaload, 1) := by decide +kernel
theorem dL_law_997 : decode cL_law 997 = .ok (.invokevirtual 117, 3) := by decide +kernel
theorem dL_law_1000 : decode cL_law 1000 = .ok (.if_icmp .eq 144, 3) := by decide +kernel
theorem dL_law_1003 : decode cL_law 1003 = .ok (.iconst 0, 1) := by decide +kernel
theorem dL_law_1004 : decode cL_law 1004 = .ok (.ireturn, 1) := by decide +kernel
theorem dL_law_1005 : decode cL_law 1005 = .ok (.aload_n 1, 1) := by decide +kernel
theorem dL_law_1006 : decode cL_law 1006 = .ok (.aload_n 0, 1) := by decide +kernel
theorem dL_law_1007 : decode cL_law 1007 = .ok (.iload 4, 2) := by decide +kernel
theorem dL_law_1009 : decode cL_law 1009 = .ok (.iconst 1, 1) := by decide +kernel
theorem dL_law_1010 : decode cL_law 1010 = .ok (.iadd, 1) := by decide +kernel
theorem dL_law_1011 : decode cL_law 1011 = .ok (.iaload, 1) := by decide +kernel
theorem dL_law_1012 : decode cL_law 1012 = .ok (.aload_n 0, 1) := by decide +kernel
theorem dL_law_1013 : decode cL_law 1013 = .ok (.iload 4, 2) := by decide +kernel
theorem dL_law_1015 : decode cL_law 1015 = .ok (.iconst 2, 1) := by decide +kernel
theorem dL_law_1016 : decode cL_law 1016 = .ok (.iadd, 1) := by decide +kernel
theorem dL_law_1017 : decode cL_law 1017 = .ok (.iaload, 1) := by decide +kernel
theorem dL_law_1018 : decode cL_law 1018 = .ok (.aload_n 0, 1) := by decide +kernel
theorem dL_law_1019 : decode cL_law 1019 = .ok (.iload 4, 2) := by decide +kernel
theorem dL_law_1021 : decode cL_law 1021 = .ok (.iconst 3, 1) := by decide +kernel
theorem dL_law_1022 : decode cL_law 1022 = .ok (.iadd, 1) := by decide +kernel
theorem dL_law_1023 : decode cL_law 1023 = .ok (.iaload, 1) := by decide +kernel
theorem dL_law_1024 : decode cL_law 1024 = .ok (.aload_n 0, 1) := by decide +kernel
theorem dL_law_1025 : decode cL_law 1025 = .ok (.iload 4, 2) := by decide +kernel
theorem dL_law_1027 : decode cL_law 1027 = .ok (.iconst 4, 1) := by decide +kernel
theorem dL_law_1028 : decode cL_law 1028 = .ok (.iadd, 1) := by decide +kernel
theorem dL_law_1029 : decode cL_law 1029 = .ok (.iaload, 1) := by decide +kernel
theorem dL_law_1030 : decode cL_law 1030 = .ok (.invokevirtual 118, 3) := by decide +kernel
theorem dL_law_1033 : decode cL_law 1033 = .ok (.aload_n 2, 1) := by decide +kernel
theorem dL_law_1034 : decode cL_law 1034 = .ok (.aload_n 0, 1) := by decide +kernel
theorem dL_law_1035 : decode cL_law 1035 = .ok (.iload 4, 2) := by decide +kernel
theorem dL_law_1037 : decode cL_law 1037 = .ok (.iconst 1, 1) := by decide +kernel
theorem dL_law_1038 : decode cL_law 1038 = .ok (.iadd, 1) := by decide +kernel
theorem dL_law_1039 : decode cL_law 1039 = .ok (.iaload, 1) := by decide +kernel
theorem dL_law_1040 : decode cL_law 1040 = .ok (.aload_n 0, 1) := by decide +kernel
theorem dL_law_1041 : decode cL_law 1041 = .ok (.iload 4, 2) := by decide +kernel
theorem dL_law_1043 : decode cL_law 1043 = .ok (.iconst 2, 1) := by decide +kernel
theorem dL_law_1044 : decode cL_law 1044 = .ok (.iadd, 1) := by decide +kernel
theorem dL_law_1045 : decode cL_law 1045 = .ok (.iaload, 1) := by decide +kernel
theorem dL_law_1046 : decode cL_law 1046 = .ok (.aload_n 0, 1) := by decide +kernel
theorem dL_law_1047 : decode cL_law 1047 = .ok (.iload 4, 2) := by decide +kernel
theorem dL_law_1049 : decode cL_law 1049 = .ok (.iconst 3, 1) := by decide +kernel
theorem dL_law_1050 : decode cL_law 1050 = .ok (.iadd, 1) := by decide +kernel
theorem dL_law_1051 : decode cL_law 1051 = .ok (.iaload, 1) := by decide +kernel
theorem dL_law_1052 : decode cL_law 1052 = .ok (.aload_n 0, 1) := by decide +kernel
theorem dL_law_1053 : decode cL_law 1053 = .ok (.iload 4, 2) := by decide +kernel
theorem dL_law_1055 : decode cL_law 1055 = .ok (.iconst 4, 1) := by decide +kernel
theorem dL_law_1056 : decode cL_law 1056 = .ok (.iadd, 1) := by decide +kernel
theorem dL_law_1057 : decode cL_law 1057 = .ok (.iaload, 1) := by decide +kernel
theorem dL_law_1058 : decode cL_law 1058 = .ok (.invokevirtual 122, 3) := by decide +kernel
theorem dL_law_1061 : decode cL_law 1061 = .ok (.if_icmp .eq 83, 3) := by decide +kernel
theorem dL_law_1064 : decode cL_law 1064 = .ok (.iconst 0, 1) := by decide +kernel
theorem dL_law_1065 : decode cL_law 1065 = .ok (.ireturn, 1) := by decide +kernel
theorem dL_law_1066 : decode cL_law 1066 = .ok (.aload_n 1, 1) := by decide +kernel
theorem dL_law_1067 : decode cL_law 1067 = .ok (.aload_n 0, 1) := by decide +kernel
theorem dL_law_1068 : decode cL_law 1068 = .ok (.iload 4, 2) := by decide +kernel
theorem dL_law_1070 : decode cL_law 1070 = .ok (.iconst 1, 1) := by decide +kernel
theorem dL_law_1071 : decode cL_law 1071 = .ok (.iadd, 1) := by decide +kernel
theorem dL_law_1072 : decode cL_law 1072 = .ok (.iaload, 1) := by decide +kernel
theorem dL_law_1073 : decode cL_law 1073 = .ok (.aload_n 0, 1) := by decide +kernel
theorem dL_law_1074 : decode cL_law 1074 = .ok (.iload 4, 2) := by decide +kernel
theorem dL_law_1076 : decode cL_law 1076 = .ok (.iconst 2, 1) := by decide +kernel
theorem dL_law_1077 : decode cL_law 1077 = .ok (.iadd, 1) := by decide +kernel
theorem dL_law_1078 : decode cL_law 1078 = .ok (.iaload, 1) := by decide +kernel
theorem dL_law_1079 : decode cL_law 1079 = .ok (.ifCond .eq 7, 3) := by decide +kernel
theorem dL_law_1082 : decode cL_law 1082 = .ok (.iconst 1, 1) := by decide +kernel
theorem dL_law_1083 : decode cL_law 1083 = .ok (.goto 4, 3) := by decide +kernel
theorem dL_law_1086 : decode cL_law 1086 = .ok (.iconst 0, 1) := by decide +kernel
theorem dL_law_1087 : decode cL_law 1087 = .ok (.invokevirtual 123, 3) := by decide +kernel
theorem dL_law_1090 : decode cL_law 1090 = .ok (.aload_n 2, 1) := by decide +kernel
theorem dL_law_1091 : decode cL_law 1091 = .ok (.aload_n 0, 1) := by decide +kernel
theorem dL_law_1092 : decode cL_law 1092 = .ok (.iload 4, 2) := by decide +kernel
theorem dL_law_1094 : decode cL_law 1094 = .ok (.iconst 1, 1) := by decide +kernel
theorem dL_law_1095 : decode cL_law 1095 = .ok (.iadd, 1) := by decide +kernel
theorem dL_law_1096 : decode cL_law 1096 = .ok (.iaload, 1) := by decide +kernel
theorem dL_law_1097 : decode cL_law 1097 = .ok (.aload_n 0, 1) := by decide +kernel
theorem dL_law_1098 : decode cL_law 1098 = .ok (.iload 4, 2) := by decide +kernel
theorem dL_law_1100 : decode cL_law 1100 = .ok (.iconst 2, 1) := by decide +kernel
theorem dL_law_1101 : decode cL_law 1101 = .ok (.iadd, 1) := by decide +kernel
theorem dL_law_1102 : decode cL_law 1102 = .ok (.iaload, 1) := by decide +kernel
theorem dL_law_1103 : decode cL_law 1103 = .ok (.ifCond .eq 7, 3) := by decide +kernel
theorem dL_law_1106 : decode cL_law 1106 = .ok (.iconst 1, 1) := by decide +kernel
theorem dL_law_1107 : decode cL_law 1107 = .ok (.goto 4, 3) := by decide +kernel
theorem dL_law_1110 : decode cL_law 1110 = .ok (.iconst 0, 1) := by decide +kernel
theorem dL_law_1111 : decode cL_law 1111 = .ok (.invokevirtual 127, 3) := by decide +kernel
theorem dL_law_1114 : decode cL_law 1114 = .ok (.if_icmp .eq 30, 3) := by decide +kernel
theorem dL_law_1117 : decode cL_law 1117 = .ok (.iconst 0, 1) := by decide +kernel
theorem dL_law_1118 : decode cL_law 1118 = .ok (.ireturn, 1) := by decide +kernel
theorem dL_law_1119 : decode cL_law 1119 = .ok (.aload_n 1, 1) := by decide +kernel
theorem dL_law_1120 : decode cL_law 1120 = .ok (.aload_n 0, 1) := by decide +kernel
theorem dL_law_1121 : decode cL_law 1121 = .ok (.iload 4, 2) := by decide +kernel
theorem dL_law_1123 : decode cL_law 1123 = .ok (.iconst 1, 1) := by decide +kernel
theorem dL_law_1124 : decode cL_law 1124 = .ok (.iadd, 1) := by decide +kernel
theorem dL_law_1125 : decode cL_law 1125 = .ok (.iaload, 1) := by decide +kernel
theorem dL_law_1126 : decode cL_law 1126 = .ok (.invokevirtual 128, 3) := by decide +kernel
theorem dL_law_1129 : decode cL_law 1129 = .ok (.aload_n 2, 1) := by decide +kernel
theorem dL_law_1130 : decode cL_law 1130 = .ok (.aload_n 0, 1) := by decide +kernel
theorem dL_law_1131 : decode cL_law 1131 = .ok (.iload 4, 2) := by decide +kernel
theorem dL_law_1133 : decode cL_law 1133 = .ok (.iconst 1, 1) := by decide +kernel
theorem dL_law_1134 : decode cL_law 1134 = .ok (.iadd, 1) := by decide +kernel
theorem dL_law_1135 : decode cL_law 1135 = .ok (.iaload, 1) := by decide +kernel
theorem dL_law_1136 : decode cL_law 1136 = .ok (.invokevirtual 131, 3) := by decide +kernel
theorem dL_law_1139 : decode cL_law 1139 = .ok (.if_icmp .eq 5, 3) := by decide +kernel
theorem dL_law_1142 : decode cL_law 1142 = .ok (.iconst 0, 1) := by decide +kernel
theorem dL_law_1143 : decode cL_law 1143 = .ok (.ireturn, 1) := by decide +kernel
theorem dL_law_1144 : decode cL_law 1144 = .ok (.iinc 4 7, 3) := by decide +kernel
theorem dL_law_1147 : decode cL_law 1147 = .ok (.goto (-1124), 3) := by decide +kernel
theorem dL_law_1150 : decode cL_law 1150 = .ok (.iconst 1, 1) := by decide +kernel
theorem dL_law_1151 : decode cL_law 1151 = .ok (.ireturn, 1) := by decide +kernel
end
