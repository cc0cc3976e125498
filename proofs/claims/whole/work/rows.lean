section
-- ===== PART A: goes FIRST, ahead of the names: the tables' words, and 'selects' of the private methods out of them =====
/-- a private method of a class that the tables say can be made, by its rows of tables_1 -/
def lw_okq (q : MethodName × Nat) : Prop := (q.1.cls ≠ "java/lang/invoke/MethodHandle" ∧ q.1.cls ≠ "java/lang/invoke/VarHandle") ∧ Cond.instantiable q.1.cls q.2 ∈ tables_1 ∧ Cond.privateMethod q.1 ∈ tables_1 ∧ Cond.instanceMethod q.1 ∈ tables_1
theorem lw_p0 : lw_okq (⟨"FrostLocks$Tokens", "takeWord", "()V"⟩, 9) := ⟨⟨by decide +kernel, by decide +kernel⟩, List.mem_of_getElem? (i := 265) (by decide +kernel), List.mem_of_getElem? (i := 353) (by decide +kernel), List.mem_of_getElem? (i := 354) (by decide +kernel)⟩
theorem lw_p1 : lw_okq (⟨"FrostLocks$Tokens", "takeNumber", "()V"⟩, 9) := ⟨⟨by decide +kernel, by decide +kernel⟩, List.mem_of_getElem? (i := 265) (by decide +kernel), List.mem_of_getElem? (i := 366) (by decide +kernel), List.mem_of_getElem? (i := 367) (by decide +kernel)⟩
theorem lw_p2 : lw_okq (⟨"FrostLocks$PrisonReader", "readLine", "()Z"⟩, 11) := ⟨⟨by decide +kernel, by decide +kernel⟩, List.mem_of_getElem? (i := 257) (by decide +kernel), List.mem_of_getElem? (i := 455) (by decide +kernel), List.mem_of_getElem? (i := 456) (by decide +kernel)⟩
theorem lw_p3 : lw_okq (⟨"FrostLocks$PrisonReader", "readFormula", "(Z)Z"⟩, 11) := ⟨⟨by decide +kernel, by decide +kernel⟩, List.mem_of_getElem? (i := 257) (by decide +kernel), List.mem_of_getElem? (i := 461) (by decide +kernel), List.mem_of_getElem? (i := 462) (by decide +kernel)⟩
theorem lw_p4 : lw_okq (⟨"FrostLocks$PrisonReader", "wrong", "(I)Z"⟩, 11) := ⟨⟨by decide +kernel, by decide +kernel⟩, List.mem_of_getElem? (i := 257) (by decide +kernel), List.mem_of_getElem? (i := 465) (by decide +kernel), List.mem_of_getElem? (i := 466) (by decide +kernel)⟩
theorem lw_p5 : lw_okq (⟨"FrostLocks$PrisonReader", "readLevel", "(II)Z"⟩, 11) := ⟨⟨by decide +kernel, by decide +kernel⟩, List.mem_of_getElem? (i := 257) (by decide +kernel), List.mem_of_getElem? (i := 469) (by decide +kernel), List.mem_of_getElem? (i := 470) (by decide +kernel)⟩
theorem lw_p6 : lw_okq (⟨"FrostLocks$PrisonReader", "readPart", "(I)Z"⟩, 11) := ⟨⟨by decide +kernel, by decide +kernel⟩, List.mem_of_getElem? (i := 257) (by decide +kernel), List.mem_of_getElem? (i := 473) (by decide +kernel), List.mem_of_getElem? (i := 474) (by decide +kernel)⟩
theorem lw_p7 : lw_okq (⟨"FrostLocks$PrisonReader", "addStep", "(II)V"⟩, 11) := ⟨⟨by decide +kernel, by decide +kernel⟩, List.mem_of_getElem? (i := 257) (by decide +kernel), List.mem_of_getElem? (i := 484) (by decide +kernel), List.mem_of_getElem? (i := 485) (by decide +kernel)⟩
theorem lw_p8 : lw_okq (⟨"FrostLocks$PrisonReader", "readSign", "(I)Z"⟩, 11) := ⟨⟨by decide +kernel, by decide +kernel⟩, List.mem_of_getElem? (i := 257) (by decide +kernel), List.mem_of_getElem? (i := 491) (by decide +kernel), List.mem_of_getElem? (i := 492) (by decide +kernel)⟩
theorem lw_p9 : lw_okq (⟨"FrostLocks$PrisonReader", "operatorOf", "(I)I"⟩, 11) := ⟨⟨by decide +kernel, by decide +kernel⟩, List.mem_of_getElem? (i := 257) (by decide +kernel), List.mem_of_getElem? (i := 495) (by decide +kernel), List.mem_of_getElem? (i := 496) (by decide +kernel)⟩
theorem lw_p10 : lw_okq (⟨"FrostLocks$PrisonReader", "readMild", "()Z"⟩, 11) := ⟨⟨by decide +kernel, by decide +kernel⟩, List.mem_of_getElem? (i := 257) (by decide +kernel), List.mem_of_getElem? (i := 534) (by decide +kernel), List.mem_of_getElem? (i := 535) (by decide +kernel)⟩
theorem lw_p11 : lw_okq (⟨"FrostLocks$PrisonReader", "readNumber", "(I)Z"⟩, 11) := ⟨⟨by decide +kernel, by decide +kernel⟩, List.mem_of_getElem? (i := 257) (by decide +kernel), List.mem_of_getElem? (i := 538) (by decide +kernel), List.mem_of_getElem? (i := 539) (by decide +kernel)⟩
theorem lw_p12 : lw_okq (⟨"FrostLocks$PrisonReader", "readCell", "()Z"⟩, 11) := ⟨⟨by decide +kernel, by decide +kernel⟩, List.mem_of_getElem? (i := 257) (by decide +kernel), List.mem_of_getElem? (i := 544) (by decide +kernel), List.mem_of_getElem? (i := 545) (by decide +kernel)⟩
theorem lw_p13 : lw_okq (⟨"FrostLocks$PrisonReader", "isNewName", "()Z"⟩, 11) := ⟨⟨by decide +kernel, by decide +kernel⟩, List.mem_of_getElem? (i := 257) (by decide +kernel), List.mem_of_getElem? (i := 548) (by decide +kernel), List.mem_of_getElem? (i := 549) (by decide +kernel)⟩
theorem lw_p14 : lw_okq (⟨"FrostLocks$PrisonReader", "cellNamed", "(J)I"⟩, 11) := ⟨⟨by decide +kernel, by decide +kernel⟩, List.mem_of_getElem? (i := 257) (by decide +kernel), List.mem_of_getElem? (i := 556) (by decide +kernel), List.mem_of_getElem? (i := 557) (by decide +kernel)⟩
theorem lw_p15 : lw_okq (⟨"FrostLocks$PrisonReader", "readWord", "(LFrostLocks$Word;)Z"⟩, 11) := ⟨⟨by decide +kernel, by decide +kernel⟩, List.mem_of_getElem? (i := 257) (by decide +kernel), List.mem_of_getElem? (i := 562) (by decide +kernel), List.mem_of_getElem? (i := 563) (by decide +kernel)⟩
def lw_privs_1 : List (MethodName × Nat) := [(⟨"FrostLocks$Tokens", "takeWord", "()V"⟩, 9), (⟨"FrostLocks$Tokens", "takeNumber", "()V"⟩, 9), (⟨"FrostLocks$PrisonReader", "readLine", "()Z"⟩, 11), (⟨"FrostLocks$PrisonReader", "readFormula", "(Z)Z"⟩, 11), (⟨"FrostLocks$PrisonReader", "wrong", "(I)Z"⟩, 11), (⟨"FrostLocks$PrisonReader", "readLevel", "(II)Z"⟩, 11), (⟨"FrostLocks$PrisonReader", "readPart", "(I)Z"⟩, 11), (⟨"FrostLocks$PrisonReader", "addStep", "(II)V"⟩, 11), (⟨"FrostLocks$PrisonReader", "readSign", "(I)Z"⟩, 11), (⟨"FrostLocks$PrisonReader", "operatorOf", "(I)I"⟩, 11), (⟨"FrostLocks$PrisonReader", "readMild", "()Z"⟩, 11), (⟨"FrostLocks$PrisonReader", "readNumber", "(I)Z"⟩, 11), (⟨"FrostLocks$PrisonReader", "readCell", "()Z"⟩, 11), (⟨"FrostLocks$PrisonReader", "isNewName", "()Z"⟩, 11), (⟨"FrostLocks$PrisonReader", "cellNamed", "(J)I"⟩, 11), (⟨"FrostLocks$PrisonReader", "readWord", "(LFrostLocks$Word;)Z"⟩, 11)]
theorem lw_r1 : ∀ q ∈ lw_privs_1, lw_okq q := List.forall_mem_cons.mpr ⟨lw_p0, List.forall_mem_cons.mpr ⟨lw_p1, List.forall_mem_cons.mpr ⟨lw_p2, List.forall_mem_cons.mpr ⟨lw_p3, List.forall_mem_cons.mpr ⟨lw_p4, List.forall_mem_cons.mpr ⟨lw_p5, List.forall_mem_cons.mpr ⟨lw_p6, List.forall_mem_cons.mpr ⟨lw_p7, List.forall_mem_cons.mpr ⟨lw_p8, List.forall_mem_cons.mpr ⟨lw_p9, List.forall_mem_cons.mpr ⟨lw_p10, List.forall_mem_cons.mpr ⟨lw_p11, List.forall_mem_cons.mpr ⟨lw_p12, List.forall_mem_cons.mpr ⟨lw_p13, List.forall_mem_cons.mpr ⟨lw_p14, List.forall_mem_cons.mpr ⟨lw_p15, fun _ h => absurd h List.not_mem_nil⟩⟩⟩⟩⟩⟩⟩⟩⟩⟩⟩⟩⟩⟩⟩⟩
theorem lw_p16 : lw_okq (⟨"FrostLocks$PrisonReader", "readDoor", "()Z"⟩, 11) := ⟨⟨by decide +kernel, by decide +kernel⟩, List.mem_of_getElem? (i := 257) (by decide +kernel), List.mem_of_getElem? (i := 568) (by decide +kernel), List.mem_of_getElem? (i := 569) (by decide +kernel)⟩
theorem lw_p17 : lw_okq (⟨"FrostLocks$PrisonReader", "isCellName", "()Z"⟩, 11) := ⟨⟨by decide +kernel, by decide +kernel⟩, List.mem_of_getElem? (i := 257) (by decide +kernel), List.mem_of_getElem? (i := 572) (by decide +kernel), List.mem_of_getElem? (i := 573) (by decide +kernel)⟩
theorem lw_p18 : lw_okq (⟨"FrostLocks$PrisonReader", "readOther", "(I)Z"⟩, 11) := ⟨⟨by decide +kernel, by decide +kernel⟩, List.mem_of_getElem? (i := 257) (by decide +kernel), List.mem_of_getElem? (i := 578) (by decide +kernel), List.mem_of_getElem? (i := 579) (by decide +kernel)⟩
theorem lw_p19 : lw_okq (⟨"FrostLocks$PrisonReader", "readMan", "()Z"⟩, 11) := ⟨⟨by decide +kernel, by decide +kernel⟩, List.mem_of_getElem? (i := 257) (by decide +kernel), List.mem_of_getElem? (i := 588) (by decide +kernel), List.mem_of_getElem? (i := 589) (by decide +kernel)⟩
theorem lw_p20 : lw_okq (⟨"FrostLocks$PrisonReader", "readGuard", "()Z"⟩, 11) := ⟨⟨by decide +kernel, by decide +kernel⟩, List.mem_of_getElem? (i := 257) (by decide +kernel), List.mem_of_getElem? (i := 600) (by decide +kernel), List.mem_of_getElem? (i := 601) (by decide +kernel)⟩
theorem lw_p21 : lw_okq (⟨"FrostLocks$Law", "measureDoor", "(II)V"⟩, 17) := ⟨⟨by decide +kernel, by decide +kernel⟩, List.mem_of_getElem? (i := 52) (by decide +kernel), List.mem_of_getElem? (i := 611) (by decide +kernel), List.mem_of_getElem? (i := 612) (by decide +kernel)⟩
theorem lw_p22 : lw_okq (⟨"FrostLocks", "isHeld", "(I)Z"⟩, 9) := ⟨⟨by decide +kernel, by decide +kernel⟩, List.mem_of_getElem? (i := 27) (by decide +kernel), List.mem_of_getElem? (i := 673) (by decide +kernel), List.mem_of_getElem? (i := 674) (by decide +kernel)⟩
theorem lw_p23 : lw_okq (⟨"FrostLocks$Night", "freeze", "(LFrostLocks$Lock;)V"⟩, 8) := ⟨⟨by decide +kernel, by decide +kernel⟩, List.mem_of_getElem? (i := 142) (by decide +kernel), List.mem_of_getElem? (i := 744) (by decide +kernel), List.mem_of_getElem? (i := 745) (by decide +kernel)⟩
theorem lw_p24 : lw_okq (⟨"FrostLocks$Night", "letGo", "(I)V"⟩, 8) := ⟨⟨by decide +kernel, by decide +kernel⟩, List.mem_of_getElem? (i := 142) (by decide +kernel), List.mem_of_getElem? (i := 758) (by decide +kernel), List.mem_of_getElem? (i := 759) (by decide +kernel)⟩
theorem lw_p25 : lw_okq (⟨"FrostLocks$Night", "isNearer", "(II)Z"⟩, 8) := ⟨⟨by decide +kernel, by decide +kernel⟩, List.mem_of_getElem? (i := 142) (by decide +kernel), List.mem_of_getElem? (i := 767) (by decide +kernel), List.mem_of_getElem? (i := 768) (by decide +kernel)⟩
theorem lw_p26 : lw_okq (⟨"FrostLocks", "foresee", "(II)V"⟩, 9) := ⟨⟨by decide +kernel, by decide +kernel⟩, List.mem_of_getElem? (i := 27) (by decide +kernel), List.mem_of_getElem? (i := 792) (by decide +kernel), List.mem_of_getElem? (i := 793) (by decide +kernel)⟩
theorem lw_p27 : lw_okq (⟨"FrostLocks", "isFirmWith", "(III)Z"⟩, 9) := ⟨⟨by decide +kernel, by decide +kernel⟩, List.mem_of_getElem? (i := 27) (by decide +kernel), List.mem_of_getElem? (i := 799) (by decide +kernel), List.mem_of_getElem? (i := 800) (by decide +kernel)⟩
theorem lw_p28 : lw_okq (⟨"FrostLocks", "orderDoors", "(I)V"⟩, 9) := ⟨⟨by decide +kernel, by decide +kernel⟩, List.mem_of_getElem? (i := 27) (by decide +kernel), List.mem_of_getElem? (i := 811) (by decide +kernel), List.mem_of_getElem? (i := 812) (by decide +kernel)⟩
theorem lw_p29 : lw_okq (⟨"FrostLocks", "findSoonest", "(I)V"⟩, 9) := ⟨⟨by decide +kernel, by decide +kernel⟩, List.mem_of_getElem? (i := 27) (by decide +kernel), List.mem_of_getElem? (i := 815) (by decide +kernel), List.mem_of_getElem? (i := 816) (by decide +kernel)⟩
theorem lw_p30 : lw_okq (⟨"FrostLocks", "noteLoose", "(II)I"⟩, 9) := ⟨⟨by decide +kernel, by decide +kernel⟩, List.mem_of_getElem? (i := 27) (by decide +kernel), List.mem_of_getElem? (i := 820) (by decide +kernel), List.mem_of_getElem? (i := 821) (by decide +kernel)⟩
theorem lw_p31 : lw_okq (⟨"FrostLocks", "weighWays", "()V"⟩, 9) := ⟨⟨by decide +kernel, by decide +kernel⟩, List.mem_of_getElem? (i := 27) (by decide +kernel), List.mem_of_getElem? (i := 836) (by decide +kernel), List.mem_of_getElem? (i := 837) (by decide +kernel)⟩
def lw_privs_2 : List (MethodName × Nat) := [(⟨"FrostLocks$PrisonReader", "readDoor", "()Z"⟩, 11), (⟨"FrostLocks$PrisonReader", "isCellName", "()Z"⟩, 11), (⟨"FrostLocks$PrisonReader", "readOther", "(I)Z"⟩, 11), (⟨"FrostLocks$PrisonReader", "readMan", "()Z"⟩, 11), (⟨"FrostLocks$PrisonReader", "readGuard", "()Z"⟩, 11), (⟨"FrostLocks$Law", "measureDoor", "(II)V"⟩, 17), (⟨"FrostLocks", "isHeld", "(I)Z"⟩, 9), (⟨"FrostLocks$Night", "freeze", "(LFrostLocks$Lock;)V"⟩, 8), (⟨"FrostLocks$Night", "letGo", "(I)V"⟩, 8), (⟨"FrostLocks$Night", "isNearer", "(II)Z"⟩, 8), (⟨"FrostLocks", "foresee", "(II)V"⟩, 9), (⟨"FrostLocks", "isFirmWith", "(III)Z"⟩, 9), (⟨"FrostLocks", "orderDoors", "(I)V"⟩, 9), (⟨"FrostLocks", "findSoonest", "(I)V"⟩, 9), (⟨"FrostLocks", "noteLoose", "(II)I"⟩, 9), (⟨"FrostLocks", "weighWays", "()V"⟩, 9)]
theorem lw_r2 : ∀ q ∈ lw_privs_2, lw_okq q := List.forall_mem_cons.mpr ⟨lw_p16, List.forall_mem_cons.mpr ⟨lw_p17, List.forall_mem_cons.mpr ⟨lw_p18, List.forall_mem_cons.mpr ⟨lw_p19, List.forall_mem_cons.mpr ⟨lw_p20, List.forall_mem_cons.mpr ⟨lw_p21, List.forall_mem_cons.mpr ⟨lw_p22, List.forall_mem_cons.mpr ⟨lw_p23, List.forall_mem_cons.mpr ⟨lw_p24, List.forall_mem_cons.mpr ⟨lw_p25, List.forall_mem_cons.mpr ⟨lw_p26, List.forall_mem_cons.mpr ⟨lw_p27, List.forall_mem_cons.mpr ⟨lw_p28, List.forall_mem_cons.mpr ⟨lw_p29, List.forall_mem_cons.mpr ⟨lw_p30, List.forall_mem_cons.mpr ⟨lw_p31, fun _ h => absurd h List.not_mem_nil⟩⟩⟩⟩⟩⟩⟩⟩⟩⟩⟩⟩⟩⟩⟩⟩
theorem lw_p32 : lw_okq (⟨"FrostLocks", "weighDoor", "(III)V"⟩, 9) := ⟨⟨by decide +kernel, by decide +kernel⟩, List.mem_of_getElem? (i := 27) (by decide +kernel), List.mem_of_getElem? (i := 840) (by decide +kernel), List.mem_of_getElem? (i := 841) (by decide +kernel)⟩
theorem lw_p33 : lw_okq (⟨"FrostLocks", "weightOf", "(I)I"⟩, 9) := ⟨⟨by decide +kernel, by decide +kernel⟩, List.mem_of_getElem? (i := 27) (by decide +kernel), List.mem_of_getElem? (i := 844) (by decide +kernel), List.mem_of_getElem? (i := 845) (by decide +kernel)⟩
theorem lw_p34 : lw_okq (⟨"FrostLocks", "doorWeight", "(I)I"⟩, 9) := ⟨⟨by decide +kernel, by decide +kernel⟩, List.mem_of_getElem? (i := 27) (by decide +kernel), List.mem_of_getElem? (i := 848) (by decide +kernel), List.mem_of_getElem? (i := 849) (by decide +kernel)⟩
theorem lw_p35 : lw_okq (⟨"FrostLocks", "doorOfWay", "(II)I"⟩, 9) := ⟨⟨by decide +kernel, by decide +kernel⟩, List.mem_of_getElem? (i := 27) (by decide +kernel), List.mem_of_getElem? (i := 852) (by decide +kernel), List.mem_of_getElem? (i := 853) (by decide +kernel)⟩
theorem lw_p36 : lw_okq (⟨"FrostLocks", "firstDoorOfWay", "(I)I"⟩, 9) := ⟨⟨by decide +kernel, by decide +kernel⟩, List.mem_of_getElem? (i := 27) (by decide +kernel), List.mem_of_getElem? (i := 856) (by decide +kernel), List.mem_of_getElem? (i := 857) (by decide +kernel)⟩
theorem lw_p37 : lw_okq (⟨"java/lang/Throwable", "fillInStackTrace", "(I)Ljava/lang/Throwable;"⟩, 6) := ⟨⟨by decide +kernel, by decide +kernel⟩, List.mem_of_getElem? (i := 958) (by decide +kernel), List.mem_of_getElem? (i := 956) (by decide +kernel), List.mem_of_getElem? (i := 957) (by decide +kernel)⟩
theorem lw_p38 : lw_okq (⟨"FrostLocksModel", "readsAll", "()Z"⟩, 57) := ⟨⟨by decide +kernel, by decide +kernel⟩, List.mem_of_getElem? (i := 996) (by decide +kernel), List.mem_of_getElem? (i := 1188) (by decide +kernel), List.mem_of_getElem? (i := 1189) (by decide +kernel)⟩
theorem lw_p39 : lw_okq (⟨"FrostLocksModel", "nextToken", "()V"⟩, 57) := ⟨⟨by decide +kernel, by decide +kernel⟩, List.mem_of_getElem? (i := 996) (by decide +kernel), List.mem_of_getElem? (i := 1192) (by decide +kernel), List.mem_of_getElem? (i := 1193) (by decide +kernel)⟩
theorem lw_p40 : lw_okq (⟨"FrostLocksModel", "signAt", "(I)I"⟩, 57) := ⟨⟨by decide +kernel, by decide +kernel⟩, List.mem_of_getElem? (i := 996) (by decide +kernel), List.mem_of_getElem? (i := 1196) (by decide +kernel), List.mem_of_getElem? (i := 1197) (by decide +kernel)⟩
theorem lw_p41 : lw_okq (⟨"FrostLocksModel", "isWord", "(J)Z"⟩, 57) := ⟨⟨by decide +kernel, by decide +kernel⟩, List.mem_of_getElem? (i := 996) (by decide +kernel), List.mem_of_getElem? (i := 1203) (by decide +kernel), List.mem_of_getElem? (i := 1204) (by decide +kernel)⟩
theorem lw_p42 : lw_okq (⟨"FrostLocksModel", "readsLaw", "(I)Z"⟩, 57) := ⟨⟨by decide +kernel, by decide +kernel⟩, List.mem_of_getElem? (i := 996) (by decide +kernel), List.mem_of_getElem? (i := 1207) (by decide +kernel), List.mem_of_getElem? (i := 1208) (by decide +kernel)⟩
theorem lw_p43 : lw_okq (⟨"FrostLocksModel", "fails", "(I)Z"⟩, 57) := ⟨⟨by decide +kernel, by decide +kernel⟩, List.mem_of_getElem? (i := 996) (by decide +kernel), List.mem_of_getElem? (i := 1211) (by decide +kernel), List.mem_of_getElem? (i := 1212) (by decide +kernel)⟩
theorem lw_p44 : lw_okq (⟨"FrostLocksModel", "reads", "()Z"⟩, 57) := ⟨⟨by decide +kernel, by decide +kernel⟩, List.mem_of_getElem? (i := 996) (by decide +kernel), List.mem_of_getElem? (i := 1215) (by decide +kernel), List.mem_of_getElem? (i := 1216) (by decide +kernel)⟩
theorem lw_p45 : lw_okq (⟨"FrostLocksModel", "fact", "()I"⟩, 57) := ⟨⟨by decide +kernel, by decide +kernel⟩, List.mem_of_getElem? (i := 996) (by decide +kernel), List.mem_of_getElem? (i := 1219) (by decide +kernel), List.mem_of_getElem? (i := 1220) (by decide +kernel)⟩
theorem lw_p46 : lw_okq (⟨"FrostLocksModel", "isSign", "(I)Z"⟩, 57) := ⟨⟨by decide +kernel, by decide +kernel⟩, List.mem_of_getElem? (i := 996) (by decide +kernel), List.mem_of_getElem? (i := 1233) (by decide +kernel), List.mem_of_getElem? (i := 1234) (by decide +kernel)⟩
theorem lw_p47 : lw_okq (⟨"FrostLocksModel", "puts", "(I)V"⟩, 57) := ⟨⟨by decide +kernel, by decide +kernel⟩, List.mem_of_getElem? (i := 996) (by decide +kernel), List.mem_of_getElem? (i := 1237) (by decide +kernel), List.mem_of_getElem? (i := 1238) (by decide +kernel)⟩
def lw_privs_3 : List (MethodName × Nat) := [(⟨"FrostLocks", "weighDoor", "(III)V"⟩, 9), (⟨"FrostLocks", "weightOf", "(I)I"⟩, 9), (⟨"FrostLocks", "doorWeight", "(I)I"⟩, 9), (⟨"FrostLocks", "doorOfWay", "(II)I"⟩, 9), (⟨"FrostLocks", "firstDoorOfWay", "(I)I"⟩, 9), (⟨"java/lang/Throwable", "fillInStackTrace", "(I)Ljava/lang/Throwable;"⟩, 6), (⟨"FrostLocksModel", "readsAll", "()Z"⟩, 57), (⟨"FrostLocksModel", "nextToken", "()V"⟩, 57), (⟨"FrostLocksModel", "signAt", "(I)I"⟩, 57), (⟨"FrostLocksModel", "isWord", "(J)Z"⟩, 57), (⟨"FrostLocksModel", "readsLaw", "(I)Z"⟩, 57), (⟨"FrostLocksModel", "fails", "(I)Z"⟩, 57), (⟨"FrostLocksModel", "reads", "()Z"⟩, 57), (⟨"FrostLocksModel", "fact", "()I"⟩, 57), (⟨"FrostLocksModel", "isSign", "(I)Z"⟩, 57), (⟨"FrostLocksModel", "puts", "(I)V"⟩, 57)]
theorem lw_r3 : ∀ q ∈ lw_privs_3, lw_okq q := List.forall_mem_cons.mpr ⟨lw_p32, List.forall_mem_cons.mpr ⟨lw_p33, List.forall_mem_cons.mpr ⟨lw_p34, List.forall_mem_cons.mpr ⟨lw_p35, List.forall_mem_cons.mpr ⟨lw_p36, List.forall_mem_cons.mpr ⟨lw_p37, List.forall_mem_cons.mpr ⟨lw_p38, List.forall_mem_cons.mpr ⟨lw_p39, List.forall_mem_cons.mpr ⟨lw_p40, List.forall_mem_cons.mpr ⟨lw_p41, List.forall_mem_cons.mpr ⟨lw_p42, List.forall_mem_cons.mpr ⟨lw_p43, List.forall_mem_cons.mpr ⟨lw_p44, List.forall_mem_cons.mpr ⟨lw_p45, List.forall_mem_cons.mpr ⟨lw_p46, List.forall_mem_cons.mpr ⟨lw_p47, fun _ h => absurd h List.not_mem_nil⟩⟩⟩⟩⟩⟩⟩⟩⟩⟩⟩⟩⟩⟩⟩⟩
theorem lw_p48 : lw_okq (⟨"FrostLocksModel", "readsMild", "()Z"⟩, 57) := ⟨⟨by decide +kernel, by decide +kernel⟩, List.mem_of_getElem? (i := 996) (by decide +kernel), List.mem_of_getElem? (i := 1243) (by decide +kernel), List.mem_of_getElem? (i := 1244) (by decide +kernel)⟩
theorem lw_p49 : lw_okq (⟨"FrostLocksModel", "needsNumber", "(II)Z"⟩, 57) := ⟨⟨by decide +kernel, by decide +kernel⟩, List.mem_of_getElem? (i := 996) (by decide +kernel), List.mem_of_getElem? (i := 1247) (by decide +kernel), List.mem_of_getElem? (i := 1248) (by decide +kernel)⟩
theorem lw_p50 : lw_okq (⟨"FrostLocksModel", "ends", "()Z"⟩, 57) := ⟨⟨by decide +kernel, by decide +kernel⟩, List.mem_of_getElem? (i := 996) (by decide +kernel), List.mem_of_getElem? (i := 1254) (by decide +kernel), List.mem_of_getElem? (i := 1255) (by decide +kernel)⟩
theorem lw_p51 : lw_okq (⟨"FrostLocksModel", "readsCell", "()Z"⟩, 57) := ⟨⟨by decide +kernel, by decide +kernel⟩, List.mem_of_getElem? (i := 996) (by decide +kernel), List.mem_of_getElem? (i := 1259) (by decide +kernel), List.mem_of_getElem? (i := 1260) (by decide +kernel)⟩
theorem lw_p52 : lw_okq (⟨"FrostLocksModel", "isNew", "()Z"⟩, 57) := ⟨⟨by decide +kernel, by decide +kernel⟩, List.mem_of_getElem? (i := 996) (by decide +kernel), List.mem_of_getElem? (i := 1263) (by decide +kernel), List.mem_of_getElem? (i := 1264) (by decide +kernel)⟩
theorem lw_p53 : lw_okq (⟨"FrostLocksModel", "isKept", "()Z"⟩, 57) := ⟨⟨by decide +kernel, by decide +kernel⟩, List.mem_of_getElem? (i := 996) (by decide +kernel), List.mem_of_getElem? (i := 1267) (by decide +kernel), List.mem_of_getElem? (i := 1268) (by decide +kernel)⟩
theorem lw_p54 : lw_okq (⟨"FrostLocksModel", "cellNamed", "()I"⟩, 57) := ⟨⟨by decide +kernel, by decide +kernel⟩, List.mem_of_getElem? (i := 996) (by decide +kernel), List.mem_of_getElem? (i := 1279) (by decide +kernel), List.mem_of_getElem? (i := 1280) (by decide +kernel)⟩
theorem lw_p55 : lw_okq (⟨"FrostLocksModel", "needsWord", "(J)Z"⟩, 57) := ⟨⟨by decide +kernel, by decide +kernel⟩, List.mem_of_getElem? (i := 996) (by decide +kernel), List.mem_of_getElem? (i := 1283) (by decide +kernel), List.mem_of_getElem? (i := 1284) (by decide +kernel)⟩
theorem lw_p56 : lw_okq (⟨"FrostLocksModel", "readsDoor", "()Z"⟩, 57) := ⟨⟨by decide +kernel, by decide +kernel⟩, List.mem_of_getElem? (i := 996) (by decide +kernel), List.mem_of_getElem? (i := 1287) (by decide +kernel), List.mem_of_getElem? (i := 1288) (by decide +kernel)⟩
theorem lw_p57 : lw_okq (⟨"FrostLocksModel", "needsCell", "()Z"⟩, 57) := ⟨⟨by decide +kernel, by decide +kernel⟩, List.mem_of_getElem? (i := 996) (by decide +kernel), List.mem_of_getElem? (i := 1291) (by decide +kernel), List.mem_of_getElem? (i := 1292) (by decide +kernel)⟩
theorem lw_p58 : lw_okq (⟨"FrostLocksModel", "readsMan", "()Z"⟩, 57) := ⟨⟨by decide +kernel, by decide +kernel⟩, List.mem_of_getElem? (i := 996) (by decide +kernel), List.mem_of_getElem? (i := 1295) (by decide +kernel), List.mem_of_getElem? (i := 1296) (by decide +kernel)⟩
theorem lw_p59 : lw_okq (⟨"FrostLocksModel", "readsGuard", "()Z"⟩, 57) := ⟨⟨by decide +kernel, by decide +kernel⟩, List.mem_of_getElem? (i := 996) (by decide +kernel), List.mem_of_getElem? (i := 1299) (by decide +kernel), List.mem_of_getElem? (i := 1300) (by decide +kernel)⟩
theorem lw_p60 : lw_okq (⟨"FrostLocksModel", "lays", "(II)V"⟩, 57) := ⟨⟨by decide +kernel, by decide +kernel⟩, List.mem_of_getElem? (i := 996) (by decide +kernel), List.mem_of_getElem? (i := 1303) (by decide +kernel), List.mem_of_getElem? (i := 1304) (by decide +kernel)⟩
theorem lw_p61 : lw_okq (⟨"FrostLocksModel", "ways", "()V"⟩, 57) := ⟨⟨by decide +kernel, by decide +kernel⟩, List.mem_of_getElem? (i := 996) (by decide +kernel), List.mem_of_getElem? (i := 1310) (by decide +kernel), List.mem_of_getElem? (i := 1311) (by decide +kernel)⟩
theorem lw_p62 : lw_okq (⟨"FrostLocksModel", "isCell", "(I)Z"⟩, 57) := ⟨⟨by decide +kernel, by decide +kernel⟩, List.mem_of_getElem? (i := 996) (by decide +kernel), List.mem_of_getElem? (i := 1318) (by decide +kernel), List.mem_of_getElem? (i := 1319) (by decide +kernel)⟩
theorem lw_p63 : lw_okq (⟨"FrostLocksModel", "menIn", "(I)I"⟩, 57) := ⟨⟨by decide +kernel, by decide +kernel⟩, List.mem_of_getElem? (i := 996) (by decide +kernel), List.mem_of_getElem? (i := 1322) (by decide +kernel), List.mem_of_getElem? (i := 1323) (by decide +kernel)⟩
def lw_privs_4 : List (MethodName × Nat) := [(⟨"FrostLocksModel", "readsMild", "()Z"⟩, 57), (⟨"FrostLocksModel", "needsNumber", "(II)Z"⟩, 57), (⟨"FrostLocksModel", "ends", "()Z"⟩, 57), (⟨"FrostLocksModel", "readsCell", "()Z"⟩, 57), (⟨"FrostLocksModel", "isNew", "()Z"⟩, 57), (⟨"FrostLocksModel", "isKept", "()Z"⟩, 57), (⟨"FrostLocksModel", "cellNamed", "()I"⟩, 57), (⟨"FrostLocksModel", "needsWord", "(J)Z"⟩, 57), (⟨"FrostLocksModel", "readsDoor", "()Z"⟩, 57), (⟨"FrostLocksModel", "needsCell", "()Z"⟩, 57), (⟨"FrostLocksModel", "readsMan", "()Z"⟩, 57), (⟨"FrostLocksModel", "readsGuard", "()Z"⟩, 57), (⟨"FrostLocksModel", "lays", "(II)V"⟩, 57), (⟨"FrostLocksModel", "ways", "()V"⟩, 57), (⟨"FrostLocksModel", "isCell", "(I)Z"⟩, 57), (⟨"FrostLocksModel", "menIn", "(I)I"⟩, 57)]
theorem lw_r4 : ∀ q ∈ lw_privs_4, lw_okq q := List.forall_mem_cons.mpr ⟨lw_p48, List.forall_mem_cons.mpr ⟨lw_p49, List.forall_mem_cons.mpr ⟨lw_p50, List.forall_mem_cons.mpr ⟨lw_p51, List.forall_mem_cons.mpr ⟨lw_p52, List.forall_mem_cons.mpr ⟨lw_p53, List.forall_mem_cons.mpr ⟨lw_p54, List.forall_mem_cons.mpr ⟨lw_p55, List.forall_mem_cons.mpr ⟨lw_p56, List.forall_mem_cons.mpr ⟨lw_p57, List.forall_mem_cons.mpr ⟨lw_p58, List.forall_mem_cons.mpr ⟨lw_p59, List.forall_mem_cons.mpr ⟨lw_p60, List.forall_mem_cons.mpr ⟨lw_p61, List.forall_mem_cons.mpr ⟨lw_p62, List.forall_mem_cons.mpr ⟨lw_p63, fun _ h => absurd h List.not_mem_nil⟩⟩⟩⟩⟩⟩⟩⟩⟩⟩⟩⟩⟩⟩⟩⟩
theorem lw_p64 : lw_okq (⟨"FrostLocksModel", "guardsIn", "(II)I"⟩, 57) := ⟨⟨by decide +kernel, by decide +kernel⟩, List.mem_of_getElem? (i := 996) (by decide +kernel), List.mem_of_getElem? (i := 1326) (by decide +kernel), List.mem_of_getElem? (i := 1327) (by decide +kernel)⟩
theorem lw_p65 : lw_okq (⟨"FrostLocksModel", "isDoor", "(I)Z"⟩, 57) := ⟨⟨by decide +kernel, by decide +kernel⟩, List.mem_of_getElem? (i := 996) (by decide +kernel), List.mem_of_getElem? (i := 1334) (by decide +kernel), List.mem_of_getElem? (i := 1335) (by decide +kernel)⟩
theorem lw_p66 : lw_okq (⟨"FrostLocksModel", "isMan", "(I)Z"⟩, 57) := ⟨⟨by decide +kernel, by decide +kernel⟩, List.mem_of_getElem? (i := 996) (by decide +kernel), List.mem_of_getElem? (i := 1342) (by decide +kernel), List.mem_of_getElem? (i := 1343) (by decide +kernel)⟩
theorem lw_p67 : lw_okq (⟨"FrostLocksModel", "degreesAt", "(II)I"⟩, 57) := ⟨⟨by decide +kernel, by decide +kernel⟩, List.mem_of_getElem? (i := 996) (by decide +kernel), List.mem_of_getElem? (i := 1350) (by decide +kernel), List.mem_of_getElem? (i := 1351) (by decide +kernel)⟩
theorem lw_p68 : lw_okq (⟨"FrostLocksModel", "worked", "(I)I"⟩, 57) := ⟨⟨by decide +kernel, by decide +kernel⟩, List.mem_of_getElem? (i := 996) (by decide +kernel), List.mem_of_getElem? (i := 1354) (by decide +kernel), List.mem_of_getElem? (i := 1355) (by decide +kernel)⟩
theorem lw_p69 : lw_okq (⟨"FrostLocksModel", "opens", "(I)V"⟩, 57) := ⟨⟨by decide +kernel, by decide +kernel⟩, List.mem_of_getElem? (i := 996) (by decide +kernel), List.mem_of_getElem? (i := 1358) (by decide +kernel), List.mem_of_getElem? (i := 1359) (by decide +kernel)⟩
theorem lw_p70 : lw_okq (⟨"FrostLocksModel", "sums", "(I)V"⟩, 57) := ⟨⟨by decide +kernel, by decide +kernel⟩, List.mem_of_getElem? (i := 996) (by decide +kernel), List.mem_of_getElem? (i := 1362) (by decide +kernel), List.mem_of_getElem? (i := 1363) (by decide +kernel)⟩
theorem lw_p71 : lw_okq (⟨"FrostLocksModel", "tests", "(I)V"⟩, 57) := ⟨⟨by decide +kernel, by decide +kernel⟩, List.mem_of_getElem? (i := 996) (by decide +kernel), List.mem_of_getElem? (i := 1366) (by decide +kernel), List.mem_of_getElem? (i := 1367) (by decide +kernel)⟩
theorem lw_p72 : lw_okq (⟨"FrostLocksModel", "poursIn", "(II)I"⟩, 57) := ⟨⟨by decide +kernel, by decide +kernel⟩, List.mem_of_getElem? (i := 996) (by decide +kernel), List.mem_of_getElem? (i := 1377) (by decide +kernel), List.mem_of_getElem? (i := 1378) (by decide +kernel)⟩
theorem lw_p73 : lw_okq (⟨"FrostLocksModel", "isHeld", "(I)Z"⟩, 57) := ⟨⟨by decide +kernel, by decide +kernel⟩, List.mem_of_getElem? (i := 996) (by decide +kernel), List.mem_of_getElem? (i := 1386) (by decide +kernel), List.mem_of_getElem? (i := 1387) (by decide +kernel)⟩
theorem lw_p74 : lw_okq (⟨"FrostLocksModel", "leads", "(II)I"⟩, 57) := ⟨⟨by decide +kernel, by decide +kernel⟩, List.mem_of_getElem? (i := 996) (by decide +kernel), List.mem_of_getElem? (i := 1390) (by decide +kernel), List.mem_of_getElem? (i := 1391) (by decide +kernel)⟩
theorem lw_p75 : lw_okq (⟨"FrostLocksModel", "passes", "(I)V"⟩, 57) := ⟨⟨by decide +kernel, by decide +kernel⟩, List.mem_of_getElem? (i := 996) (by decide +kernel), List.mem_of_getElem? (i := 1406) (by decide +kernel), List.mem_of_getElem? (i := 1407) (by decide +kernel)⟩
theorem lw_p76 : lw_okq (⟨"FrostLocksModel", "frosts", "(I)V"⟩, 57) := ⟨⟨by decide +kernel, by decide +kernel⟩, List.mem_of_getElem? (i := 996) (by decide +kernel), List.mem_of_getElem? (i := 1410) (by decide +kernel), List.mem_of_getElem? (i := 1411) (by decide +kernel)⟩
theorem lw_p77 : lw_okq (⟨"FrostLocksModel", "inAndBy", "(I)I"⟩, 57) := ⟨⟨by decide +kernel, by decide +kernel⟩, List.mem_of_getElem? (i := 996) (by decide +kernel), List.mem_of_getElem? (i := 1414) (by decide +kernel), List.mem_of_getElem? (i := 1415) (by decide +kernel)⟩
theorem lw_p78 : lw_okq (⟨"FrostLocksModel", "freezes", "(IIIIII)I"⟩, 57) := ⟨⟨by decide +kernel, by decide +kernel⟩, List.mem_of_getElem? (i := 996) (by decide +kernel), List.mem_of_getElem? (i := 1421) (by decide +kernel), List.mem_of_getElem? (i := 1422) (by decide +kernel)⟩
theorem lw_p79 : lw_okq (⟨"FrostLocksModel", "turns", "(III)V"⟩, 57) := ⟨⟨by decide +kernel, by decide +kernel⟩, List.mem_of_getElem? (i := 996) (by decide +kernel), List.mem_of_getElem? (i := 1425) (by decide +kernel), List.mem_of_getElem? (i := 1426) (by decide +kernel)⟩
def lw_privs_5 : List (MethodName × Nat) := [(⟨"FrostLocksModel", "guardsIn", "(II)I"⟩, 57), (⟨"FrostLocksModel", "isDoor", "(I)Z"⟩, 57), (⟨"FrostLocksModel", "isMan", "(I)Z"⟩, 57), (⟨"FrostLocksModel", "degreesAt", "(II)I"⟩, 57), (⟨"FrostLocksModel", "worked", "(I)I"⟩, 57), (⟨"FrostLocksModel", "opens", "(I)V"⟩, 57), (⟨"FrostLocksModel", "sums", "(I)V"⟩, 57), (⟨"FrostLocksModel", "tests", "(I)V"⟩, 57), (⟨"FrostLocksModel", "poursIn", "(II)I"⟩, 57), (⟨"FrostLocksModel", "isHeld", "(I)Z"⟩, 57), (⟨"FrostLocksModel", "leads", "(II)I"⟩, 57), (⟨"FrostLocksModel", "passes", "(I)V"⟩, 57), (⟨"FrostLocksModel", "frosts", "(I)V"⟩, 57), (⟨"FrostLocksModel", "inAndBy", "(I)I"⟩, 57), (⟨"FrostLocksModel", "freezes", "(IIIIII)I"⟩, 57), (⟨"FrostLocksModel", "turns", "(III)V"⟩, 57)]
theorem lw_r5 : ∀ q ∈ lw_privs_5, lw_okq q := List.forall_mem_cons.mpr ⟨lw_p64, List.forall_mem_cons.mpr ⟨lw_p65, List.forall_mem_cons.mpr ⟨lw_p66, List.forall_mem_cons.mpr ⟨lw_p67, List.forall_mem_cons.mpr ⟨lw_p68, List.forall_mem_cons.mpr ⟨lw_p69, List.forall_mem_cons.mpr ⟨lw_p70, List.forall_mem_cons.mpr ⟨lw_p71, List.forall_mem_cons.mpr ⟨lw_p72, List.forall_mem_cons.mpr ⟨lw_p73, List.forall_mem_cons.mpr ⟨lw_p74, List.forall_mem_cons.mpr ⟨lw_p75, List.forall_mem_cons.mpr ⟨lw_p76, List.forall_mem_cons.mpr ⟨lw_p77, List.forall_mem_cons.mpr ⟨lw_p78, List.forall_mem_cons.mpr ⟨lw_p79, fun _ h => absurd h List.not_mem_nil⟩⟩⟩⟩⟩⟩⟩⟩⟩⟩⟩⟩⟩⟩⟩⟩
theorem lw_p80 : lw_okq (⟨"FrostLocksModel", "walks", "(I)V"⟩, 57) := ⟨⟨by decide +kernel, by decide +kernel⟩, List.mem_of_getElem? (i := 996) (by decide +kernel), List.mem_of_getElem? (i := 1430) (by decide +kernel), List.mem_of_getElem? (i := 1431) (by decide +kernel)⟩
theorem lw_p81 : lw_okq (⟨"FrostLocksModel", "hasGuard", "(II)Z"⟩, 57) := ⟨⟨by decide +kernel, by decide +kernel⟩, List.mem_of_getElem? (i := 996) (by decide +kernel), List.mem_of_getElem? (i := 1434) (by decide +kernel), List.mem_of_getElem? (i := 1435) (by decide +kernel)⟩
theorem lw_p82 : lw_okq (⟨"FrostLocksModel", "farOf", "(I)I"⟩, 57) := ⟨⟨by decide +kernel, by decide +kernel⟩, List.mem_of_getElem? (i := 996) (by decide +kernel), List.mem_of_getElem? (i := 1438) (by decide +kernel), List.mem_of_getElem? (i := 1439) (by decide +kernel)⟩
theorem lw_p83 : lw_okq (⟨"FrostLocksModel", "soons", "(I)V"⟩, 57) := ⟨⟨by decide +kernel, by decide +kernel⟩, List.mem_of_getElem? (i := 996) (by decide +kernel), List.mem_of_getElem? (i := 1449) (by decide +kernel), List.mem_of_getElem? (i := 1450) (by decide +kernel)⟩
theorem lw_p84 : lw_okq (⟨"FrostLocksModel", "holds", "(III)Z"⟩, 57) := ⟨⟨by decide +kernel, by decide +kernel⟩, List.mem_of_getElem? (i := 996) (by decide +kernel), List.mem_of_getElem? (i := 1460) (by decide +kernel), List.mem_of_getElem? (i := 1461) (by decide +kernel)⟩
theorem lw_p85 : lw_okq (⟨"FrostLocksModel", "orders", "(I)V"⟩, 57) := ⟨⟨by decide +kernel, by decide +kernel⟩, List.mem_of_getElem? (i := 996) (by decide +kernel), List.mem_of_getElem? (i := 1468) (by decide +kernel), List.mem_of_getElem? (i := 1469) (by decide +kernel)⟩
theorem lw_p86 : lw_okq (⟨"FrostLocksModel", "tries", "(IIII)V"⟩, 57) := ⟨⟨by decide +kernel, by decide +kernel⟩, List.mem_of_getElem? (i := 996) (by decide +kernel), List.mem_of_getElem? (i := 1480) (by decide +kernel), List.mem_of_getElem? (i := 1481) (by decide +kernel)⟩
theorem lw_p87 : lw_okq (⟨"FrostLocksModel", "held", "()I"⟩, 57) := ⟨⟨by decide +kernel, by decide +kernel⟩, List.mem_of_getElem? (i := 996) (by decide +kernel), List.mem_of_getElem? (i := 1504) (by decide +kernel), List.mem_of_getElem? (i := 1505) (by decide +kernel)⟩
theorem lw_p88 : lw_okq (⟨"FrostLocksModel", "draws", "(I)I"⟩, 57) := ⟨⟨by decide +kernel, by decide +kernel⟩, List.mem_of_getElem? (i := 996) (by decide +kernel), List.mem_of_getElem? (i := 1515) (by decide +kernel), List.mem_of_getElem? (i := 1516) (by decide +kernel)⟩
def lw_privs_6 : List (MethodName × Nat) := [(⟨"FrostLocksModel", "walks", "(I)V"⟩, 57), (⟨"FrostLocksModel", "hasGuard", "(II)Z"⟩, 57), (⟨"FrostLocksModel", "farOf", "(I)I"⟩, 57), (⟨"FrostLocksModel", "soons", "(I)V"⟩, 57), (⟨"FrostLocksModel", "holds", "(III)Z"⟩, 57), (⟨"FrostLocksModel", "orders", "(I)V"⟩, 57), (⟨"FrostLocksModel", "tries", "(IIII)V"⟩, 57), (⟨"FrostLocksModel", "held", "()I"⟩, 57), (⟨"FrostLocksModel", "draws", "(I)I"⟩, 57)]
theorem lw_r6 : ∀ q ∈ lw_privs_6, lw_okq q := List.forall_mem_cons.mpr ⟨lw_p80, List.forall_mem_cons.mpr ⟨lw_p81, List.forall_mem_cons.mpr ⟨lw_p82, List.forall_mem_cons.mpr ⟨lw_p83, List.forall_mem_cons.mpr ⟨lw_p84, List.forall_mem_cons.mpr ⟨lw_p85, List.forall_mem_cons.mpr ⟨lw_p86, List.forall_mem_cons.mpr ⟨lw_p87, List.forall_mem_cons.mpr ⟨lw_p88, fun _ h => absurd h List.not_mem_nil⟩⟩⟩⟩⟩⟩⟩⟩⟩
def lw_privs : List (MethodName × Nat) := lw_privs_1 ++ (lw_privs_2 ++ (lw_privs_3 ++ (lw_privs_4 ++ (lw_privs_5 ++ (lw_privs_6)))))
def lw_tbl : List Cond := k2_sels lw_privs ++ tables_1
theorem lw_privs_ok : ∀ q ∈ lw_privs, lw_okq q := by
  show ∀ q ∈ lw_privs_1 ++ (lw_privs_2 ++ (lw_privs_3 ++ (lw_privs_4 ++ (lw_privs_5 ++ (lw_privs_6))))), lw_okq q
  exact List.forall_mem_append.mpr ⟨lw_r1, List.forall_mem_append.mpr ⟨lw_r2, List.forall_mem_append.mpr ⟨lw_r3, List.forall_mem_append.mpr ⟨lw_r4, List.forall_mem_append.mpr ⟨lw_r5, lw_r6⟩⟩⟩⟩⟩
end
section
def RX0 : String := "FrostLocks$Draws"
def TX0 : u_T := fun k => match k with
  | _ => ("FrostLocks$Draws", "state", "J", false)
def tyX0 : Nat → FieldType := fun k => match k with
  | _ => .long
theorem nmX0 : ∀ a, a < 1 → ∀ b, b < 1 → a ≠ b → (TX0 a).2.1 ≠ (TX0 b).2.1 := by decide +kernel
theorem tyX0_ok : ∀ k, k < 1 → parseFieldDescriptor (TX0 k).2.2.1 = some (tyX0 k) := by decide +kernel
abbrev cX0_init : ByteArray := prog_2_method_1_code
def yX0_init : MethodName := ⟨RX0, "<init>", "(I)V"⟩
abbrev cX0_drawBelow : ByteArray := prog_2_method_2_code
def yX0_drawBelow : MethodName := ⟨RX0, "drawBelow", "(I)I"⟩
def RX1 : String := "FrostLocks$Formula"
def TX1 : u_T := fun k => match k with
  | 0 => ("FrostLocks$Formula", "steps", "[I", true)
  | _ => ("FrostLocks$Formula", "stack", "[I", true)
def tyX1 : Nat → FieldType := fun k => match k with
  | 0 => .array .int
  | _ => .array .int
theorem nmX1 : ∀ a, a < 2 → ∀ b, b < 2 → a ≠ b → (TX1 a).2.1 ≠ (TX1 b).2.1 := by decide +kernel
theorem tyX1_ok : ∀ k, k < 2 → parseFieldDescriptor (TX1 k).2.2.1 = some (tyX1 k) := by decide +kernel
abbrev cX1_init : ByteArray := prog_3_method_1_code
def yX1_init : MethodName := ⟨RX1, "<init>", "([II)V"⟩
abbrev cX1_stepOf : ByteArray := prog_3_method_2_code
def yX1_stepOf : MethodName := ⟨RX1, "stepOf", "(II)I"⟩
abbrev cX1_valueBy : ByteArray := prog_3_method_3_code
def yX1_valueBy : MethodName := ⟨RX1, "valueBy", "([I)I"⟩
abbrev cX1_factOf : ByteArray := prog_3_method_4_code
def yX1_factOf : MethodName := ⟨RX1, "factOf", "([II)I"⟩
abbrev cX1_joined : ByteArray := prog_3_method_5_code
def yX1_joined : MethodName := ⟨RX1, "joined", "(III)I"⟩
abbrev cX1_bit : ByteArray := prog_3_method_6_code
def yX1_bit : MethodName := ⟨RX1, "bit", "(Z)I"⟩
def RX2 : String := "FrostLocks$Law"
def TX2 : u_T := fun k => match k with
  | 0 => ("FrostLocks$Law", "cells", "I", false)
  | 1 => ("FrostLocks$Law", "doors", "I", false)
  | 2 => ("FrostLocks$Law", "men", "I", false)
  | 3 => ("FrostLocks$Law", "guards", "I", false)
  | 4 => ("FrostLocks$Law", "mild", "I", false)
  | 5 => ("FrostLocks$Law", "weather", "LFrostLocks$Formula;", false)
  | 6 => ("FrostLocks$Law", "ice", "LFrostLocks$Formula;", false)
  | 7 => ("FrostLocks$Law", "stoves", "[I", true)
  | 8 => ("FrostLocks$Law", "far", "[I", true)
  | 9 => ("FrostLocks$Law", "doorCell", "[I", true)
  | 10 => ("FrostLocks$Law", "doorOther", "[I", true)
  | 11 => ("FrostLocks$Law", "thick", "[I", true)
  | 12 => ("FrostLocks$Law", "manCell", "[I", true)
  | 13 => ("FrostLocks$Law", "manSalt", "[I", true)
  | 14 => ("FrostLocks$Law", "manDay", "[I", true)
  | 15 => ("FrostLocks$Law", "rounds", "[I", true)
  | _ => ("FrostLocks$Law", "roundLength", "[I", true)
def tyX2 : Nat → FieldType := fun k => match k with
  | 0 => .int
  | 1 => .int
  | 2 => .int
  | 3 => .int
  | 4 => .int
  | 5 => .object "FrostLocks$Formula"
  | 6 => .object "FrostLocks$Formula"
  | 7 => .array .int
  | 8 => .array .int
  | 9 => .array .int
  | 10 => .array .int
  | 11 => .array .int
  | 12 => .array .int
  | 13 => .array .int
  | 14 => .array .int
  | 15 => .array .int
  | _ => .array .int
theorem nmX2 : ∀ a, a < 17 → ∀ b, b < 17 → a ≠ b → (TX2 a).2.1 ≠ (TX2 b).2.1 := by decide +kernel
theorem tyX2_ok : ∀ k, k < 17 → parseFieldDescriptor (TX2 k).2.2.1 = some (tyX2 k) := by decide +kernel
abbrev cX2_init : ByteArray := prog_4_method_1_code
def yX2_init : MethodName := ⟨RX2, "<init>", "()V"⟩
abbrev cX2_across : ByteArray := prog_4_method_2_code
def yX2_across : MethodName := ⟨RX2, "across", "(II)I"⟩
abbrev cX2_farOf : ByteArray := prog_4_method_3_code
def yX2_farOf : MethodName := ⟨RX2, "farOf", "(I)I"⟩
abbrev cX2_guardCell : ByteArray := prog_4_method_4_code
def yX2_guardCell : MethodName := ⟨RX2, "guardCell", "(II)I"⟩
abbrev cX2_measureFar : ByteArray := prog_4_method_5_code
def yX2_measureFar : MethodName := ⟨RX2, "measureFar", "()V"⟩
abbrev cX2_measureDoor : ByteArray := prog_4_method_6_code
def yX2_measureDoor : MethodName := ⟨RX2, "measureDoor", "(II)V"⟩
def RX3 : String := "FrostLocks$Lock"
def TX3 : u_T := fun k => match k with
  | 0 => ("FrostLocks$Lock", "ice", "I", false)
  | 1 => ("FrostLocks$Lock", "water", "I", false)
  | 2 => ("FrostLocks$Lock", "salt", "I", false)
  | 3 => ("FrostLocks$Lock", "bareIce", "I", false)
  | _ => ("FrostLocks$Lock", "menBeside", "I", false)
def tyX3 : Nat → FieldType := fun k => match k with
  | 0 => .int
  | 1 => .int
  | 2 => .int
  | 3 => .int
  | _ => .int
theorem nmX3 : ∀ a, a < 5 → ∀ b, b < 5 → a ≠ b → (TX3 a).2.1 ≠ (TX3 b).2.1 := by decide +kernel
theorem tyX3_ok : ∀ k, k < 5 → parseFieldDescriptor (TX3 k).2.2.1 = some (tyX3 k) := by decide +kernel
abbrev cX3_init : ByteArray := prog_5_method_1_code
def yX3_init : MethodName := ⟨RX3, "<init>", "()V"⟩
abbrev cX3_begin : ByteArray := prog_5_method_2_code
def yX3_begin : MethodName := ⟨RX3, "begin", "(I)V"⟩
abbrev cX3_copyFrom : ByteArray := prog_5_method_3_code
def yX3_copyFrom : MethodName := ⟨RX3, "copyFrom", "(LFrostLocks$Lock;)V"⟩
abbrev cX3_held : ByteArray := prog_5_method_4_code
def yX3_held : MethodName := ⟨RX3, "held", "()I"⟩
abbrev cX3_isLoose : ByteArray := prog_5_method_5_code
def yX3_isLoose : MethodName := ⟨RX3, "isLoose", "()Z"⟩
abbrev cX3_saltBehind : ByteArray := prog_5_method_6_code
def yX3_saltBehind : MethodName := ⟨RX3, "saltBehind", "(I)I"⟩
abbrev cX3_takeWater : ByteArray := prog_5_method_7_code
def yX3_takeWater : MethodName := ⟨RX3, "takeWater", "(I)I"⟩
def RX4 : String := "FrostLocks$Night"
def TX4 : u_T := fun k => match k with
  | 0 => ("FrostLocks$Night", "law", "LFrostLocks$Law;", false)
  | 1 => ("FrostLocks$Night", "hour", "I", false)
  | 2 => ("FrostLocks$Night", "barred", "I", false)
  | 3 => ("FrostLocks$Night", "stoves", "[I", true)
  | 4 => ("FrostLocks$Night", "manCell", "[I", true)
  | 5 => ("FrostLocks$Night", "manSalt", "[I", true)
  | 6 => ("FrostLocks$Night", "locks", "[LFrostLocks$Lock;", true)
  | _ => ("FrostLocks$Night", "facts", "[I", true)
def tyX4 : Nat → FieldType := fun k => match k with
  | 0 => .object "FrostLocks$Law"
  | 1 => .int
  | 2 => .int
  | 3 => .array .int
  | 4 => .array .int
  | 5 => .array .int
  | 6 => .array (.object "FrostLocks$Lock")
  | _ => .array .int
theorem nmX4 : ∀ a, a < 8 → ∀ b, b < 8 → a ≠ b → (TX4 a).2.1 ≠ (TX4 b).2.1 := by decide +kernel
theorem tyX4_ok : ∀ k, k < 8 → parseFieldDescriptor (TX4 k).2.2.1 = some (tyX4 k) := by decide +kernel
abbrev cX4_init : ByteArray := prog_6_method_1_code
def yX4_init : MethodName := ⟨RX4, "<init>", "(LFrostLocks$Law;)V"⟩
abbrev cX4_begin : ByteArray := prog_6_method_2_code
def yX4_begin : MethodName := ⟨RX4, "begin", "(LFrostLocks$Law;)V"⟩
abbrev cX4_copyFrom : ByteArray := prog_6_method_3_code
def yX4_copyFrom : MethodName := ⟨RX4, "copyFrom", "(LFrostLocks$Night;)V"⟩
abbrev cX4_menIn : ByteArray := prog_6_method_4_code
def yX4_menIn : MethodName := ⟨RX4, "menIn", "(II)I"⟩
abbrev cX4_menHeld : ByteArray := prog_6_method_5_code
def yX4_menHeld : MethodName := ⟨RX4, "menHeld", "()I"⟩
abbrev cX4_guardsIn : ByteArray := prog_6_method_6_code
def yX4_guardsIn : MethodName := ⟨RX4, "guardsIn", "(I)I"⟩
abbrev cX4_someLoose : ByteArray := prog_6_method_7_code
def yX4_someLoose : MethodName := ⟨RX4, "someLoose", "()Z"⟩
abbrev cX4_degreesBehind : ByteArray := prog_6_method_8_code
def yX4_degreesBehind : MethodName := ⟨RX4, "degreesBehind", "(II)I"⟩
abbrev cX4_laySalt : ByteArray := prog_6_method_9_code
def yX4_laySalt : MethodName := ⟨RX4, "laySalt", "(II)V"⟩
abbrev cX4_passHour : ByteArray := prog_6_method_10_code
def yX4_passHour : MethodName := ⟨RX4, "passHour", "(I)V"⟩
abbrev cX4_stoveAt : ByteArray := prog_6_method_11_code
def yX4_stoveAt : MethodName := ⟨RX4, "stoveAt", "(I)I"⟩
abbrev cX4_breathAt : ByteArray := prog_6_method_12_code
def yX4_breathAt : MethodName := ⟨RX4, "breathAt", "(I)I"⟩
abbrev cX4_setAround : ByteArray := prog_6_method_13_code
def yX4_setAround : MethodName := ⟨RX4, "setAround", "(III)V"⟩
abbrev cX4_iceBehind : ByteArray := prog_6_method_14_code
def yX4_iceBehind : MethodName := ⟨RX4, "iceBehind", "(III)I"⟩
abbrev cX4_freeze : ByteArray := prog_6_method_15_code
def yX4_freeze : MethodName := ⟨RX4, "freeze", "(LFrostLocks$Lock;)V"⟩
abbrev cX4_letGo : ByteArray := prog_6_method_16_code
def yX4_letGo : MethodName := ⟨RX4, "letGo", "(I)V"⟩
abbrev cX4_isNearer : ByteArray := prog_6_method_17_code
def yX4_isNearer : MethodName := ⟨RX4, "isNearer", "(II)Z"⟩
abbrev cX4_atMost : ByteArray := prog_6_method_18_code
def yX4_atMost : MethodName := ⟨RX4, "atMost", "(II)I"⟩
def RX5 : String := "FrostLocks$PrisonReader"
def TX5 : u_T := fun k => match k with
  | 0 => ("FrostLocks$PrisonReader", "law", "LFrostLocks$Law;", true)
  | 1 => ("FrostLocks$PrisonReader", "tokens", "LFrostLocks$Tokens;", true)
  | 2 => ("FrostLocks$PrisonReader", "cellNames", "[J", true)
  | 3 => ("FrostLocks$PrisonReader", "manNames", "[J", true)
  | 4 => ("FrostLocks$PrisonReader", "steps", "[I", true)
  | 5 => ("FrostLocks$PrisonReader", "stepCount", "I", false)
  | 6 => ("FrostLocks$PrisonReader", "firstFact", "I", false)
  | 7 => ("FrostLocks$PrisonReader", "lastFact", "I", false)
  | 8 => ("FrostLocks$PrisonReader", "mildTold", "Z", false)
  | 9 => ("FrostLocks$PrisonReader", "number", "I", false)
  | _ => ("FrostLocks$PrisonReader", "fault", "I", false)
def tyX5 : Nat → FieldType := fun k => match k with
  | 0 => .object "FrostLocks$Law"
  | 1 => .object "FrostLocks$Tokens"
  | 2 => .array .long
  | 3 => .array .long
  | 4 => .array .int
  | 5 => .int
  | 6 => .int
  | 7 => .int
  | 8 => .boolean
  | 9 => .int
  | _ => .int
theorem nmX5 : ∀ a, a < 11 → ∀ b, b < 11 → a ≠ b → (TX5 a).2.1 ≠ (TX5 b).2.1 := by decide +kernel
theorem tyX5_ok : ∀ k, k < 11 → parseFieldDescriptor (TX5 k).2.2.1 = some (tyX5 k) := by decide +kernel
abbrev cX5_init : ByteArray := prog_7_method_1_code
def yX5_init : MethodName := ⟨RX5, "<init>", "(LFrostLocks$Tape;)V"⟩
abbrev cX5_readAll : ByteArray := prog_7_method_2_code
def yX5_readAll : MethodName := ⟨RX5, "readAll", "()I"⟩
abbrev cX5_wrong : ByteArray := prog_7_method_3_code
def yX5_wrong : MethodName := ⟨RX5, "wrong", "(I)Z"⟩
abbrev cX5_readLine : ByteArray := prog_7_method_4_code
def yX5_readLine : MethodName := ⟨RX5, "readLine", "()Z"⟩
abbrev cX5_readFormula : ByteArray := prog_7_method_5_code
def yX5_readFormula : MethodName := ⟨RX5, "readFormula", "(Z)Z"⟩
abbrev cX5_readMild : ByteArray := prog_7_method_6_code
def yX5_readMild : MethodName := ⟨RX5, "readMild", "()Z"⟩
abbrev cX5_readCell : ByteArray := prog_7_method_7_code
def yX5_readCell : MethodName := ⟨RX5, "readCell", "()Z"⟩
abbrev cX5_readDoor : ByteArray := prog_7_method_8_code
def yX5_readDoor : MethodName := ⟨RX5, "readDoor", "()Z"⟩
abbrev cX5_readOther : ByteArray := prog_7_method_9_code
def yX5_readOther : MethodName := ⟨RX5, "readOther", "(I)Z"⟩
abbrev cX5_readMan : ByteArray := prog_7_method_10_code
def yX5_readMan : MethodName := ⟨RX5, "readMan", "()Z"⟩
abbrev cX5_readGuard : ByteArray := prog_7_method_11_code
def yX5_readGuard : MethodName := ⟨RX5, "readGuard", "()Z"⟩
abbrev cX5_readSign : ByteArray := prog_7_method_12_code
def yX5_readSign : MethodName := ⟨RX5, "readSign", "(I)Z"⟩
abbrev cX5_readWord : ByteArray := prog_7_method_13_code
def yX5_readWord : MethodName := ⟨RX5, "readWord", "(LFrostLocks$Word;)Z"⟩
abbrev cX5_readNumber : ByteArray := prog_7_method_14_code
def yX5_readNumber : MethodName := ⟨RX5, "readNumber", "(I)Z"⟩
abbrev cX5_isNewName : ByteArray := prog_7_method_15_code
def yX5_isNewName : MethodName := ⟨RX5, "isNewName", "()Z"⟩
abbrev cX5_isCellName : ByteArray := prog_7_method_16_code
def yX5_isCellName : MethodName := ⟨RX5, "isCellName", "()Z"⟩
abbrev cX5_cellNamed : ByteArray := prog_7_method_17_code
def yX5_cellNamed : MethodName := ⟨RX5, "cellNamed", "(J)I"⟩
abbrev cX5_readLevel : ByteArray := prog_7_method_18_code
def yX5_readLevel : MethodName := ⟨RX5, "readLevel", "(II)Z"⟩
abbrev cX5_operatorOf : ByteArray := prog_7_method_19_code
def yX5_operatorOf : MethodName := ⟨RX5, "operatorOf", "(I)I"⟩
abbrev cX5_readPart : ByteArray := prog_7_method_20_code
def yX5_readPart : MethodName := ⟨RX5, "readPart", "(I)Z"⟩
abbrev cX5_addStep : ByteArray := prog_7_method_21_code
def yX5_addStep : MethodName := ⟨RX5, "addStep", "(II)V"⟩
def RX6 : String := "FrostLocks$Tape"
def TX6 : u_T := fun k => match k with
  | 0 => ("FrostLocks$Tape", "signs", "[B", true)
  | _ => ("FrostLocks$Tape", "length", "I", false)
def tyX6 : Nat → FieldType := fun k => match k with
  | 0 => .array .byte
  | _ => .int
theorem nmX6 : ∀ a, a < 2 → ∀ b, b < 2 → a ≠ b → (TX6 a).2.1 ≠ (TX6 b).2.1 := by decide +kernel
theorem tyX6_ok : ∀ k, k < 2 → parseFieldDescriptor (TX6 k).2.2.1 = some (tyX6 k) := by decide +kernel
abbrev cX6_init : ByteArray := prog_8_method_1_code
def yX6_init : MethodName := ⟨RX6, "<init>", "()V"⟩
abbrev cX6_addBytes : ByteArray := prog_8_method_2_code
def yX6_addBytes : MethodName := ⟨RX6, "addBytes", "(J)V"⟩
def RX7 : String := "FrostLocks$Tokens"
def TX7 : u_T := fun k => match k with
  | 0 => ("FrostLocks$Tokens", "signs", "[B", true)
  | 1 => ("FrostLocks$Tokens", "length", "I", true)
  | 2 => ("FrostLocks$Tokens", "at", "I", false)
  | 3 => ("FrostLocks$Tokens", "kind", "I", false)
  | 4 => ("FrostLocks$Tokens", "place", "I", false)
  | 5 => ("FrostLocks$Tokens", "number", "I", false)
  | 6 => ("FrostLocks$Tokens", "sign", "I", false)
  | 7 => ("FrostLocks$Tokens", "name", "J", false)
  | _ => ("FrostLocks$Tokens", "word", "LFrostLocks$Word;", false)
def tyX7 : Nat → FieldType := fun k => match k with
  | 0 => .array .byte
  | 1 => .int
  | 2 => .int
  | 3 => .int
  | 4 => .int
  | 5 => .int
  | 6 => .int
  | 7 => .long
  | _ => .object "FrostLocks$Word"
theorem nmX7 : ∀ a, a < 9 → ∀ b, b < 9 → a ≠ b → (TX7 a).2.1 ≠ (TX7 b).2.1 := by decide +kernel
theorem tyX7_ok : ∀ k, k < 9 → parseFieldDescriptor (TX7 k).2.2.1 = some (tyX7 k) := by decide +kernel
abbrev cX7_init : ByteArray := prog_9_method_1_code
def yX7_init : MethodName := ⟨RX7, "<init>", "(LFrostLocks$Tape;)V"⟩
abbrev cX7_withLetter : ByteArray := prog_9_method_2_code
def yX7_withLetter : MethodName := ⟨RX7, "withLetter", "(JI)J"⟩
abbrev cX7_isSign : ByteArray := prog_9_method_3_code
def yX7_isSign : MethodName := ⟨RX7, "isSign", "(I)Z"⟩
abbrev cX7_isName : ByteArray := prog_9_method_4_code
def yX7_isName : MethodName := ⟨RX7, "isName", "()Z"⟩
abbrev cX7_next : ByteArray := prog_9_method_5_code
def yX7_next : MethodName := ⟨RX7, "next", "()V"⟩
abbrev cX7_takeWord : ByteArray := prog_9_method_6_code
def yX7_takeWord : MethodName := ⟨RX7, "takeWord", "()V"⟩
abbrev cX7_takeNumber : ByteArray := prog_9_method_7_code
def yX7_takeNumber : MethodName := ⟨RX7, "takeNumber", "()V"⟩
def RX8 : String := "FrostLocks$Word"
def TX8 : u_T := fun k => match k with
  | _ => ("", "", "", false)
def tyX8 : Nat → FieldType := fun k => match k with
  | _ => .int
theorem nmX8 : ∀ a, a < 0 → ∀ b, b < 0 → a ≠ b → (TX8 a).2.1 ≠ (TX8 b).2.1 := by decide +kernel
theorem tyX8_ok : ∀ k, k < 0 → parseFieldDescriptor (TX8 k).2.2.1 = some (tyX8 k) := by decide +kernel
abbrev cX8_named : ByteArray := prog_10_method_4_code
def yX8_named : MethodName := ⟨RX8, "named", "(J)LFrostLocks$Word;"⟩
def RX9 : String := "FrostLocks"
def TX9 : u_T := fun k => match k with
  | 0 => ("FrostLocks", "tape", "LFrostLocks$Tape;", true)
  | 1 => ("FrostLocks", "now", "LFrostLocks$Night;", true)
  | 2 => ("FrostLocks", "trial", "LFrostLocks$Night;", true)
  | 3 => ("FrostLocks", "marks", "[LFrostLocks$Night;", true)
  | 4 => ("FrostLocks", "soonest", "[I", true)
  | 5 => ("FrostLocks", "order", "[I", true)
  | 6 => ("FrostLocks", "coldAhead", "[I", true)
  | 7 => ("FrostLocks", "breathAhead", "[I", true)
  | _ => ("FrostLocks", "weights", "[I", true)
def tyX9 : Nat → FieldType := fun k => match k with
  | 0 => .object "FrostLocks$Tape"
  | 1 => .object "FrostLocks$Night"
  | 2 => .object "FrostLocks$Night"
  | 3 => .array (.object "FrostLocks$Night")
  | 4 => .array .int
  | 5 => .array .int
  | 6 => .array .int
  | 7 => .array .int
  | _ => .array .int
theorem nmX9 : ∀ a, a < 9 → ∀ b, b < 9 → a ≠ b → (TX9 a).2.1 ≠ (TX9 b).2.1 := by decide +kernel
theorem tyX9_ok : ∀ k, k < 9 → parseFieldDescriptor (TX9 k).2.2.1 = some (tyX9 k) := by decide +kernel
abbrev cX9_init : ByteArray := prog_1_method_1_code
def yX9_init : MethodName := ⟨RX9, "<init>", "()V"⟩
abbrev cX9_feed : ByteArray := prog_1_method_2_code
def yX9_feed : MethodName := ⟨RX9, "feed", "(JJJ)I"⟩
abbrev cX9_prison : ByteArray := prog_1_method_3_code
def yX9_prison : MethodName := ⟨RX9, "prison", "()I"⟩
abbrev cX9_cell : ByteArray := prog_1_method_4_code
def yX9_cell : MethodName := ⟨RX9, "cell", "(II)I"⟩
abbrev cX9_door : ByteArray := prog_1_method_5_code
def yX9_door : MethodName := ⟨RX9, "door", "(II)I"⟩
abbrev cX9_man : ByteArray := prog_1_method_6_code
def yX9_man : MethodName := ⟨RX9, "man", "(II)I"⟩
abbrev cX9_degrees : ByteArray := prog_1_method_7_code
def yX9_degrees : MethodName := ⟨RX9, "degrees", "(I)I"⟩
abbrev cX9_pour : ByteArray := prog_1_method_8_code
def yX9_pour : MethodName := ⟨RX9, "pour", "(II)I"⟩
abbrev cX9_salt : ByteArray := prog_1_method_9_code
def yX9_salt : MethodName := ⟨RX9, "salt", "(II)Z"⟩
abbrev cX9_stove : ByteArray := prog_1_method_10_code
def yX9_stove : MethodName := ⟨RX9, "stove", "(II)Z"⟩
abbrev cX9_pardon : ByteArray := prog_1_method_11_code
def yX9_pardon : MethodName := ⟨RX9, "pardon", "(I)Z"⟩
abbrev cX9_hours : ByteArray := prog_1_method_12_code
def yX9_hours : MethodName := ⟨RX9, "hours", "(I)I"⟩
abbrev cX9_soon : ByteArray := prog_1_method_13_code
def yX9_soon : MethodName := ⟨RX9, "soon", "(II)I"⟩
abbrev cX9_needs : ByteArray := prog_1_method_14_code
def yX9_needs : MethodName := ⟨RX9, "needs", "(II)I"⟩
abbrev cX9_first : ByteArray := prog_1_method_15_code
def yX9_first : MethodName := ⟨RX9, "first", "(II)I"⟩
abbrev cX9_enough : ByteArray := prog_1_method_16_code
def yX9_enough : MethodName := ⟨RX9, "enough", "(II)I"⟩
abbrev cX9_plan : ByteArray := prog_1_method_17_code
def yX9_plan : MethodName := ⟨RX9, "plan", "(II)I"⟩
abbrev cX9_escape : ByteArray := prog_1_method_18_code
def yX9_escape : MethodName := ⟨RX9, "escape", "(II)I"⟩
abbrev cX9_salted : ByteArray := prog_1_method_19_code
def yX9_salted : MethodName := ⟨RX9, "salted", "(I)I"⟩
abbrev cX9_beside : ByteArray := prog_1_method_20_code
def yX9_beside : MethodName := ⟨RX9, "beside", "(I)I"⟩
abbrev cX9_thaw : ByteArray := prog_1_method_21_code
def yX9_thaw : MethodName := ⟨RX9, "thaw", "(I)I"⟩
abbrev cX9_amnesty : ByteArray := prog_1_method_22_code
def yX9_amnesty : MethodName := ⟨RX9, "amnesty", "(II)I"⟩
abbrev cX9_lots : ByteArray := prog_1_method_23_code
def yX9_lots : MethodName := ⟨RX9, "lots", "(IIII)I"⟩
abbrev cX9_mark : ByteArray := prog_1_method_24_code
def yX9_mark : MethodName := ⟨RX9, "mark", "(IZ)Z"⟩
abbrev cX9_count : ByteArray := prog_1_method_25_code
def yX9_count : MethodName := ⟨RX9, "count", "(I)I"⟩
abbrev cX9_isBelow : ByteArray := prog_1_method_26_code
def yX9_isBelow : MethodName := ⟨RX9, "isBelow", "(II)Z"⟩
abbrev cX9_isWithin : ByteArray := prog_1_method_27_code
def yX9_isWithin : MethodName := ⟨RX9, "isWithin", "(III)Z"⟩
abbrev cX9_isAhead : ByteArray := prog_1_method_28_code
def yX9_isAhead : MethodName := ⟨RX9, "isAhead", "(I)Z"⟩
abbrev cX9_isHeld : ByteArray := prog_1_method_29_code
def yX9_isHeld : MethodName := ⟨RX9, "isHeld", "(I)Z"⟩
abbrev cX9_findSoonest : ByteArray := prog_1_method_30_code
def yX9_findSoonest : MethodName := ⟨RX9, "findSoonest", "(I)V"⟩
abbrev cX9_noteLoose : ByteArray := prog_1_method_31_code
def yX9_noteLoose : MethodName := ⟨RX9, "noteLoose", "(II)I"⟩
abbrev cX9_orderDoors : ByteArray := prog_1_method_32_code
def yX9_orderDoors : MethodName := ⟨RX9, "orderDoors", "(I)V"⟩
abbrev cX9_foresee : ByteArray := prog_1_method_33_code
def yX9_foresee : MethodName := ⟨RX9, "foresee", "(II)V"⟩
abbrev cX9_isFirmWith : ByteArray := prog_1_method_34_code
def yX9_isFirmWith : MethodName := ⟨RX9, "isFirmWith", "(III)Z"⟩
abbrev cX9_doorWeight : ByteArray := prog_1_method_35_code
def yX9_doorWeight : MethodName := ⟨RX9, "doorWeight", "(I)I"⟩
abbrev cX9_weightOf : ByteArray := prog_1_method_36_code
def yX9_weightOf : MethodName := ⟨RX9, "weightOf", "(I)I"⟩
abbrev cX9_weighWays : ByteArray := prog_1_method_37_code
def yX9_weighWays : MethodName := ⟨RX9, "weighWays", "()V"⟩
abbrev cX9_weighDoor : ByteArray := prog_1_method_38_code
def yX9_weighDoor : MethodName := ⟨RX9, "weighDoor", "(III)V"⟩
abbrev cX9_doorOfWay : ByteArray := prog_1_method_39_code
def yX9_doorOfWay : MethodName := ⟨RX9, "doorOfWay", "(II)I"⟩
abbrev cX9_firstDoorOfWay : ByteArray := prog_1_method_40_code
def yX9_firstDoorOfWay : MethodName := ⟨RX9, "firstDoorOfWay", "(I)I"⟩
def RX10 : String := "FrostLocksModel"
def TX10 : u_T := fun k => match k with
  | 0 => ("FrostLocksModel", "thrown", "I", false)
  | 1 => ("FrostLocksModel", "taped", "I", false)
  | 2 => ("FrostLocksModel", "tape", "[I", true)
  | 3 => ("FrostLocksModel", "size", "I", false)
  | 4 => ("FrostLocksModel", "place", "I", false)
  | 5 => ("FrostLocksModel", "begin", "I", false)
  | 6 => ("FrostLocksModel", "token", "I", false)
  | 7 => ("FrostLocksModel", "word", "J", false)
  | 8 => ("FrostLocksModel", "told", "I", false)
  | 9 => ("FrostLocksModel", "wrong", "I", false)
  | 10 => ("FrostLocksModel", "cells", "[I", true)
  | 11 => ("FrostLocksModel", "doors", "[I", true)
  | 12 => ("FrostLocksModel", "men", "[I", true)
  | 13 => ("FrostLocksModel", "guards", "[I", true)
  | 14 => ("FrostLocksModel", "mild", "[I", true)
  | 15 => ("FrostLocksModel", "cellName", "[J", true)
  | 16 => ("FrostLocksModel", "manName", "[J", true)
  | 17 => ("FrostLocksModel", "heat", "[I", true)
  | 18 => ("FrostLocksModel", "doorOf", "[I", true)
  | 19 => ("FrostLocksModel", "doorTo", "[I", true)
  | 20 => ("FrostLocksModel", "thick", "[I", true)
  | 21 => ("FrostLocksModel", "manIn", "[I", true)
  | 22 => ("FrostLocksModel", "manSalt", "[I", true)
  | 23 => ("FrostLocksModel", "waits", "[I", true)
  | 24 => ("FrostLocksModel", "roundLong", "[I", true)
  | 25 => ("FrostLocksModel", "rounds", "[I", true)
  | 26 => ("FrostLocksModel", "lineFrom", "[I", true)
  | 27 => ("FrostLocksModel", "lineTo", "[I", true)
  | 28 => ("FrostLocksModel", "codes", "[I", true)
  | 29 => ("FrostLocksModel", "code", "I", false)
  | 30 => ("FrostLocksModel", "isIce", "Z", false)
  | 31 => ("FrostLocksModel", "isMildTold", "Z", false)
  | 32 => ("FrostLocksModel", "opened", "[I", true)
  | 33 => ("FrostLocksModel", "compared", "[Z", true)
  | 34 => ("FrostLocksModel", "kept", "[I", true)
  | 35 => ("FrostLocksModel", "keptBy", "[I", true)
  | 36 => ("FrostLocksModel", "ahead", "[I", true)
  | 37 => ("FrostLocksModel", "against", "[I", true)
  | 38 => ("FrostLocksModel", "sum", "[I", true)
  | 39 => ("FrostLocksModel", "sumBy", "[I", true)
  | 40 => ("FrostLocksModel", "term", "[I", true)
  | 41 => ("FrostLocksModel", "termBy", "[I", true)
  | 42 => ("FrostLocksModel", "byNot", "[I", true)
  | 43 => ("FrostLocksModel", "valueOf", "[I", true)
  | 44 => ("FrostLocksModel", "given", "I", false)
  | 45 => ("FrostLocksModel", "s", "[I", true)
  | 46 => ("FrostLocksModel", "aside", "[I", true)
  | 47 => ("FrostLocksModel", "marked", "[I", true)
  | 48 => ("FrostLocksModel", "far", "[I", true)
  | 49 => ("FrostLocksModel", "soonOf", "[I", true)
  | 50 => ("FrostLocksModel", "order", "[I", true)
  | 51 => ("FrostLocksModel", "bestSalt", "I", false)
  | 52 => ("FrostLocksModel", "bestDoors", "I", false)
  | 53 => ("FrostLocksModel", "bestWay", "[I", true)
  | 54 => ("FrostLocksModel", "way", "[I", true)
  | 55 => ("FrostLocksModel", "g", "J", false)
  | _ => ("FrostLocksModel", "isLaid", "[Z", true)
def tyX10 : Nat → FieldType := fun k => match k with
  | 0 => .int
  | 1 => .int
  | 2 => .array .int
  | 3 => .int
  | 4 => .int
  | 5 => .int
  | 6 => .int
  | 7 => .long
  | 8 => .int
  | 9 => .int
  | 10 => .array .int
  | 11 => .array .int
  | 12 => .array .int
  | 13 => .array .int
  | 14 => .array .int
  | 15 => .array .long
  | 16 => .array .long
  | 17 => .array .int
  | 18 => .array .int
  | 19 => .array .int
  | 20 => .array .int
  | 21 => .array .int
  | 22 => .array .int
  | 23 => .array .int
  | 24 => .array .int
  | 25 => .array .int
  | 26 => .array .int
  | 27 => .array .int
  | 28 => .array .int
  | 29 => .int
  | 30 => .boolean
  | 31 => .boolean
  | 32 => .array .int
  | 33 => .array .boolean
  | 34 => .array .int
  | 35 => .array .int
  | 36 => .array .int
  | 37 => .array .int
  | 38 => .array .int
  | 39 => .array .int
  | 40 => .array .int
  | 41 => .array .int
  | 42 => .array .int
  | 43 => .array .int
  | 44 => .int
  | 45 => .array .int
  | 46 => .array .int
  | 47 => .array .int
  | 48 => .array .int
  | 49 => .array .int
  | 50 => .array .int
  | 51 => .int
  | 52 => .int
  | 53 => .array .int
  | 54 => .array .int
  | 55 => .long
  | _ => .array .boolean
theorem nmX10 : ∀ a, a < 57 → ∀ b, b < 57 → a ≠ b → (TX10 a).2.1 ≠ (TX10 b).2.1 := by decide +kernel
theorem tyX10_ok : ∀ k, k < 57 → parseFieldDescriptor (TX10 k).2.2.1 = some (tyX10 k) := by decide +kernel
abbrev cX10_init : ByteArray := prog_12_method_1_code
def yX10_init : MethodName := ⟨RX10, "<init>", "()V"⟩
abbrev cX10_thrown : ByteArray := prog_12_method_2_code
def yX10_thrown : MethodName := ⟨RX10, "thrown", "()I"⟩
abbrev cX10_within : ByteArray := prog_12_method_3_code
def yX10_within : MethodName := ⟨RX10, "within", "(III)Z"⟩
abbrev cX10_between : ByteArray := prog_12_method_4_code
def yX10_between : MethodName := ⟨RX10, "between", "(III)I"⟩
abbrev cX10_gcd : ByteArray := prog_12_method_5_code
def yX10_gcd : MethodName := ⟨RX10, "gcd", "(II)I"⟩
abbrev cX10_feed : ByteArray := prog_12_method_6_code
def yX10_feed : MethodName := ⟨RX10, "feed", "(JJJ)I"⟩
abbrev cX10_signAt : ByteArray := prog_12_method_7_code
def yX10_signAt : MethodName := ⟨RX10, "signAt", "(I)I"⟩
abbrev cX10_nextToken : ByteArray := prog_12_method_8_code
def yX10_nextToken : MethodName := ⟨RX10, "nextToken", "()V"⟩
abbrev cX10_isWord : ByteArray := prog_12_method_9_code
def yX10_isWord : MethodName := ⟨RX10, "isWord", "(J)Z"⟩
abbrev cX10_isSign : ByteArray := prog_12_method_10_code
def yX10_isSign : MethodName := ⟨RX10, "isSign", "(I)Z"⟩
abbrev cX10_fails : ByteArray := prog_12_method_11_code
def yX10_fails : MethodName := ⟨RX10, "fails", "(I)Z"⟩
abbrev cX10_puts : ByteArray := prog_12_method_12_code
def yX10_puts : MethodName := ⟨RX10, "puts", "(I)V"⟩
abbrev cX10_fact : ByteArray := prog_12_method_13_code
def yX10_fact : MethodName := ⟨RX10, "fact", "()I"⟩
abbrev cX10_reads : ByteArray := prog_12_method_14_code
def yX10_reads : MethodName := ⟨RX10, "reads", "()Z"⟩
abbrev cX10_opens : ByteArray := prog_12_method_15_code
def yX10_opens : MethodName := ⟨RX10, "opens", "(I)V"⟩
abbrev cX10_sums : ByteArray := prog_12_method_16_code
def yX10_sums : MethodName := ⟨RX10, "sums", "(I)V"⟩
abbrev cX10_tests : ByteArray := prog_12_method_17_code
def yX10_tests : MethodName := ⟨RX10, "tests", "(I)V"⟩
abbrev cX10_worked : ByteArray := prog_12_method_18_code
def yX10_worked : MethodName := ⟨RX10, "worked", "(I)I"⟩
abbrev cX10_isKept : ByteArray := prog_12_method_19_code
def yX10_isKept : MethodName := ⟨RX10, "isKept", "()Z"⟩
abbrev cX10_cellNamed : ByteArray := prog_12_method_20_code
def yX10_cellNamed : MethodName := ⟨RX10, "cellNamed", "()I"⟩
abbrev cX10_isNew : ByteArray := prog_12_method_21_code
def yX10_isNew : MethodName := ⟨RX10, "isNew", "()Z"⟩
abbrev cX10_needsNumber : ByteArray := prog_12_method_22_code
def yX10_needsNumber : MethodName := ⟨RX10, "needsNumber", "(II)Z"⟩
abbrev cX10_needsWord : ByteArray := prog_12_method_23_code
def yX10_needsWord : MethodName := ⟨RX10, "needsWord", "(J)Z"⟩
abbrev cX10_needsCell : ByteArray := prog_12_method_24_code
def yX10_needsCell : MethodName := ⟨RX10, "needsCell", "()Z"⟩
abbrev cX10_ends : ByteArray := prog_12_method_25_code
def yX10_ends : MethodName := ⟨RX10, "ends", "()Z"⟩
abbrev cX10_readsLaw : ByteArray := prog_12_method_26_code
def yX10_readsLaw : MethodName := ⟨RX10, "readsLaw", "(I)Z"⟩
abbrev cX10_readsMild : ByteArray := prog_12_method_27_code
def yX10_readsMild : MethodName := ⟨RX10, "readsMild", "()Z"⟩
abbrev cX10_readsCell : ByteArray := prog_12_method_28_code
def yX10_readsCell : MethodName := ⟨RX10, "readsCell", "()Z"⟩
abbrev cX10_readsDoor : ByteArray := prog_12_method_29_code
def yX10_readsDoor : MethodName := ⟨RX10, "readsDoor", "()Z"⟩
abbrev cX10_readsMan : ByteArray := prog_12_method_30_code
def yX10_readsMan : MethodName := ⟨RX10, "readsMan", "()Z"⟩
abbrev cX10_readsGuard : ByteArray := prog_12_method_31_code
def yX10_readsGuard : MethodName := ⟨RX10, "readsGuard", "()Z"⟩
abbrev cX10_readsAll : ByteArray := prog_12_method_32_code
def yX10_readsAll : MethodName := ⟨RX10, "readsAll", "()Z"⟩
abbrev cX10_moves : ByteArray := prog_12_method_33_code
def yX10_moves : MethodName := ⟨RX10, "moves", "([IIII)V"⟩
abbrev cX10_lays : ByteArray := prog_12_method_34_code
def yX10_lays : MethodName := ⟨RX10, "lays", "(II)V"⟩
abbrev cX10_copies : ByteArray := prog_12_method_35_code
def yX10_copies : MethodName := ⟨RX10, "copies", "([II[II)V"⟩
abbrev cX10_prison : ByteArray := prog_12_method_36_code
def yX10_prison : MethodName := ⟨RX10, "prison", "()I"⟩
abbrev cX10_isCell : ByteArray := prog_12_method_37_code
def yX10_isCell : MethodName := ⟨RX10, "isCell", "(I)Z"⟩
abbrev cX10_isDoor : ByteArray := prog_12_method_38_code
def yX10_isDoor : MethodName := ⟨RX10, "isDoor", "(I)Z"⟩
abbrev cX10_isMan : ByteArray := prog_12_method_39_code
def yX10_isMan : MethodName := ⟨RX10, "isMan", "(I)Z"⟩
abbrev cX10_isHeld : ByteArray := prog_12_method_40_code
def yX10_isHeld : MethodName := ⟨RX10, "isHeld", "(I)Z"⟩
abbrev cX10_ways : ByteArray := prog_12_method_41_code
def yX10_ways : MethodName := ⟨RX10, "ways", "()V"⟩
abbrev cX10_leads : ByteArray := prog_12_method_42_code
def yX10_leads : MethodName := ⟨RX10, "leads", "(II)I"⟩
abbrev cX10_farOf : ByteArray := prog_12_method_43_code
def yX10_farOf : MethodName := ⟨RX10, "farOf", "(I)I"⟩
abbrev cX10_hasGuard : ByteArray := prog_12_method_44_code
def yX10_hasGuard : MethodName := ⟨RX10, "hasGuard", "(II)Z"⟩
abbrev cX10_guardsIn : ByteArray := prog_12_method_45_code
def yX10_guardsIn : MethodName := ⟨RX10, "guardsIn", "(II)I"⟩
abbrev cX10_menIn : ByteArray := prog_12_method_46_code
def yX10_menIn : MethodName := ⟨RX10, "menIn", "(I)I"⟩
abbrev cX10_bits : ByteArray := prog_12_method_47_code
def yX10_bits : MethodName := ⟨RX10, "bits", "(I)I"⟩
abbrev cX10_cell : ByteArray := prog_12_method_48_code
def yX10_cell : MethodName := ⟨RX10, "cell", "(II)I"⟩
abbrev cX10_door : ByteArray := prog_12_method_49_code
def yX10_door : MethodName := ⟨RX10, "door", "(II)I"⟩
abbrev cX10_man : ByteArray := prog_12_method_50_code
def yX10_man : MethodName := ⟨RX10, "man", "(II)I"⟩
abbrev cX10_degreesAt : ByteArray := prog_12_method_51_code
def yX10_degreesAt : MethodName := ⟨RX10, "degreesAt", "(II)I"⟩
abbrev cX10_degrees : ByteArray := prog_12_method_52_code
def yX10_degrees : MethodName := ⟨RX10, "degrees", "(I)I"⟩
abbrev cX10_poursIn : ByteArray := prog_12_method_53_code
def yX10_poursIn : MethodName := ⟨RX10, "poursIn", "(II)I"⟩
abbrev cX10_pour : ByteArray := prog_12_method_54_code
def yX10_pour : MethodName := ⟨RX10, "pour", "(II)I"⟩
abbrev cX10_salt : ByteArray := prog_12_method_55_code
def yX10_salt : MethodName := ⟨RX10, "salt", "(II)Z"⟩
abbrev cX10_stove : ByteArray := prog_12_method_56_code
def yX10_stove : MethodName := ⟨RX10, "stove", "(II)Z"⟩
abbrev cX10_pardon : ByteArray := prog_12_method_57_code
def yX10_pardon : MethodName := ⟨RX10, "pardon", "(I)Z"⟩
abbrev cX10_freezes : ByteArray := prog_12_method_58_code
def yX10_freezes : MethodName := ⟨RX10, "freezes", "(IIIIII)I"⟩
abbrev cX10_turns : ByteArray := prog_12_method_59_code
def yX10_turns : MethodName := ⟨RX10, "turns", "(III)V"⟩
abbrev cX10_inAndBy : ByteArray := prog_12_method_60_code
def yX10_inAndBy : MethodName := ⟨RX10, "inAndBy", "(I)I"⟩
abbrev cX10_frosts : ByteArray := prog_12_method_61_code
def yX10_frosts : MethodName := ⟨RX10, "frosts", "(I)V"⟩
abbrev cX10_walks : ByteArray := prog_12_method_62_code
def yX10_walks : MethodName := ⟨RX10, "walks", "(I)V"⟩
abbrev cX10_passes : ByteArray := prog_12_method_63_code
def yX10_passes : MethodName := ⟨RX10, "passes", "(I)V"⟩
abbrev cX10_hours : ByteArray := prog_12_method_64_code
def yX10_hours : MethodName := ⟨RX10, "hours", "(I)I"⟩
abbrev cX10_isSome : ByteArray := prog_12_method_65_code
def yX10_isSome : MethodName := ⟨RX10, "isSome", "(I)Z"⟩
abbrev cX10_soons : ByteArray := prog_12_method_66_code
def yX10_soons : MethodName := ⟨RX10, "soons", "(I)V"⟩
abbrev cX10_soon : ByteArray := prog_12_method_67_code
def yX10_soon : MethodName := ⟨RX10, "soon", "(II)I"⟩
abbrev cX10_holds : ByteArray := prog_12_method_68_code
def yX10_holds : MethodName := ⟨RX10, "holds", "(III)Z"⟩
abbrev cX10_needs : ByteArray := prog_12_method_69_code
def yX10_needs : MethodName := ⟨RX10, "needs", "(II)I"⟩
abbrev cX10_orders : ByteArray := prog_12_method_70_code
def yX10_orders : MethodName := ⟨RX10, "orders", "(I)V"⟩
abbrev cX10_first : ByteArray := prog_12_method_71_code
def yX10_first : MethodName := ⟨RX10, "first", "(II)I"⟩
abbrev cX10_enough : ByteArray := prog_12_method_72_code
def yX10_enough : MethodName := ⟨RX10, "enough", "(II)I"⟩
abbrev cX10_tries : ByteArray := prog_12_method_73_code
def yX10_tries : MethodName := ⟨RX10, "tries", "(IIII)V"⟩
abbrev cX10_plan : ByteArray := prog_12_method_74_code
def yX10_plan : MethodName := ⟨RX10, "plan", "(II)I"⟩
abbrev cX10_escape : ByteArray := prog_12_method_75_code
def yX10_escape : MethodName := ⟨RX10, "escape", "(II)I"⟩
abbrev cX10_salted : ByteArray := prog_12_method_76_code
def yX10_salted : MethodName := ⟨RX10, "salted", "(I)I"⟩
abbrev cX10_beside : ByteArray := prog_12_method_77_code
def yX10_beside : MethodName := ⟨RX10, "beside", "(I)I"⟩
abbrev cX10_thaw : ByteArray := prog_12_method_78_code
def yX10_thaw : MethodName := ⟨RX10, "thaw", "(I)I"⟩
abbrev cX10_held : ByteArray := prog_12_method_79_code
def yX10_held : MethodName := ⟨RX10, "held", "()I"⟩
abbrev cX10_amnesty : ByteArray := prog_12_method_80_code
def yX10_amnesty : MethodName := ⟨RX10, "amnesty", "(II)I"⟩
abbrev cX10_draws : ByteArray := prog_12_method_81_code
def yX10_draws : MethodName := ⟨RX10, "draws", "(I)I"⟩
abbrev cX10_lots : ByteArray := prog_12_method_82_code
def yX10_lots : MethodName := ⟨RX10, "lots", "(IIII)I"⟩
abbrev cX10_mark : ByteArray := prog_12_method_83_code
def yX10_mark : MethodName := ⟨RX10, "mark", "(IZ)Z"⟩
abbrev cX10_count : ByteArray := prog_12_method_84_code
def yX10_count : MethodName := ⟨RX10, "count", "(I)I"⟩
def RJx145de : String := "java/io/Serializable"
def RJx9f9b0 : String := "java/lang/CharSequence"
def RJ11 : String := "java/lang/Character"
abbrev cJ11_isValidCodePoint_9a6ad : ByteArray := prog_15_method_11_code
def yJ11_isValidCodePoint_9a6ad : MethodName := ⟨RJ11, "isValidCodePoint", "(I)Z"⟩
abbrev cJ11_highSurrogate_5068e : ByteArray := prog_15_method_28_code
def yJ11_highSurrogate_5068e : MethodName := ⟨RJ11, "highSurrogate", "(I)C"⟩
abbrev cJ11_lowSurrogate_5068e : ByteArray := prog_15_method_29_code
def yJ11_lowSurrogate_5068e : MethodName := ⟨RJ11, "lowSurrogate", "(I)C"⟩
def RJx8e188 : String := "java/lang/Cloneable"
def RJxb160c : String := "java/lang/Comparable"
def RJx29ce0 : String := "java/lang/Enum"
def RJ6 : String := "java/lang/Integer"
abbrev cJ6_bitCount_0f7a4 : ByteArray := prog_20_method_49_code
def yJ6_bitCount_0f7a4 : MethodName := ⟨RJ6, "bitCount", "(I)I"⟩
def RJ9 : String := "java/lang/Math"
abbrev cJ9_floorMod_7cf53 : ByteArray := prog_21_method_50_code
def yJ9_floorMod_7cf53 : MethodName := ⟨RJ9, "floorMod", "(II)I"⟩
abbrev cJ9_max_7cf53 : ByteArray := prog_21_method_65_code
def yJ9_max_7cf53 : MethodName := ⟨RJ9, "max", "(II)I"⟩
abbrev cJ9_min_7cf53 : ByteArray := prog_21_method_69_code
def yJ9_min_7cf53 : MethodName := ⟨RJ9, "min", "(II)I"⟩
def RJ0 : String := "java/lang/String"
abbrev cJ0_length_8abf5 : ByteArray := prog_23_method_54_code
def yJ0_length_8abf5 : MethodName := ⟨RJ0, "length", "()I"⟩
abbrev cJ0_indexOf_0f7a4 : ByteArray := prog_23_method_79_code
def yJ0_indexOf_0f7a4 : MethodName := ⟨RJ0, "indexOf", "(I)I"⟩
abbrev cJ0_indexOf_7cf53 : ByteArray := prog_23_method_80_code
def yJ0_indexOf_7cf53 : MethodName := ⟨RJ0, "indexOf", "(II)I"⟩
abbrev cJ0_coder_7d493 : ByteArray := prog_23_method_152_code
def yJ0_coder_7d493 : MethodName := ⟨RJ0, "coder", "()B"⟩
abbrev cJ0_isLatin1_aae02 : ByteArray := prog_23_method_154_code
def yJ0_isLatin1_aae02 : MethodName := ⟨RJ0, "isLatin1", "()Z"⟩
abbrev cJ0_checkBoundsBeginEnd_23922 : ByteArray := prog_23_method_158_code
def yJ0_checkBoundsBeginEnd_23922 : MethodName := ⟨RJ0, "checkBoundsBeginEnd", "(III)V"⟩
def RJ1 : String := "java/lang/StringLatin1"
abbrev cJ1_canEncode_9a6ad : ByteArray := prog_24_method_4_code
def yJ1_canEncode_9a6ad : MethodName := ⟨RJ1, "canEncode", "(I)Z"⟩
abbrev cJ1_indexOf_4cfef : ByteArray := prog_24_method_22_code
def yJ1_indexOf_4cfef : MethodName := ⟨RJ1, "indexOf", "([BIII)I"⟩
abbrev cJ1_indexOfChar_4cfef : ByteArray := prog_24_method_23_code
def yJ1_indexOfChar_4cfef : MethodName := ⟨RJ1, "indexOfChar", "([BIII)I"⟩
def RJ2 : String := "java/lang/StringUTF16"
abbrev cJ2_getChar_3b067 : ByteArray := prog_25_method_5_code
def yJ2_getChar_3b067 : MethodName := ⟨RJ2, "getChar", "([BI)C"⟩
abbrev cJ2_length_9d52b : ByteArray := prog_25_method_6_code
def yJ2_length_9d52b : MethodName := ⟨RJ2, "length", "([B)I"⟩
abbrev cJ2_indexOf_4cfef : ByteArray := prog_25_method_40_code
def yJ2_indexOf_4cfef : MethodName := ⟨RJ2, "indexOf", "([BIII)I"⟩
abbrev cJ2_indexOfChar_4cfef : ByteArray := prog_25_method_47_code
def yJ2_indexOfChar_4cfef : MethodName := ⟨RJ2, "indexOfChar", "([BIII)I"⟩
abbrev cJ2_indexOfCharUnsafe_4cfef : ByteArray := prog_25_method_48_code
def yJ2_indexOfCharUnsafe_4cfef : MethodName := ⟨RJ2, "indexOfCharUnsafe", "([BIII)I"⟩
abbrev cJ2_indexOfSupplementary_4cfef : ByteArray := prog_25_method_49_code
def yJ2_indexOfSupplementary_4cfef : MethodName := ⟨RJ2, "indexOfSupplementary", "([BIII)I"⟩
abbrev cJ2_checkBoundsBeginEnd_d044e : ByteArray := prog_25_method_93_code
def yJ2_checkBoundsBeginEnd_d044e : MethodName := ⟨RJ2, "checkBoundsBeginEnd", "(II[B)V"⟩
def RJ10 : String := "java/lang/System"
def RJxfd54e : String := "java/lang/constant/Constable"
def RJx3cf43 : String := "java/lang/constant/ConstantDesc"
def RJ7 : String := "java/util/Arrays"
abbrev cJ7_fill_53178 : ByteArray := prog_30_method_103_code
def yJ7_fill_53178 : MethodName := ⟨RJ7, "fill", "([II)V"⟩
abbrev cJ7_copyOf_59c91 : ByteArray := prog_30_method_123_code
def yJ7_copyOf_59c91 : MethodName := ⟨RJ7, "copyOf", "([II)[I"⟩
def RJ3 : String := "jdk/internal/util/Preconditions"
abbrev cJ3_checkFromToIndex_8c36e : ByteArray := prog_32_method_12_code
def yJ3_checkFromToIndex_8c36e : MethodName := ⟨RJ3, "checkFromToIndex", "(IIILjava/util/function/BiFunction;)I"⟩
def RL : String := "FrostLocksLaw"
abbrev cL_man : ByteArray := method_3_code
def yL_man : MethodName := ⟨RL, "man", "(LFrostLocks;II[J)I"⟩
abbrev cL_degrees : ByteArray := method_4_code
def yL_degrees : MethodName := ⟨RL, "degrees", "(LFrostLocks;I[J)I"⟩
abbrev cL_law : ByteArray := code
def yL_law : MethodName := ⟨RL, "law", "([I)Z"⟩
end
section
/-! ===== the heap as a value: kinds, lengths, ints, longs, references (by address and place), the next address, slots in use ===== -/
abbrev Hp : Type := (Nat → Nat) × (Nat → Nat) × (Nat → Nat → Int32) × (Nat → Nat → Int64) × (Nat → Nat → Option Nat) × Nat × Nat
def zK (σ : Hp) : Nat → Nat := σ.1
def zN (σ : Hp) : Nat → Nat := σ.2.1
def zI (σ : Hp) : Nat → Nat → Int32 := σ.2.2.1
def zJ (σ : Hp) : Nat → Nat → Int64 := σ.2.2.2.1
def zQ (σ : Hp) : Nat → Nat → Option Nat := σ.2.2.2.2.1
def zX (σ : Hp) : Nat := σ.2.2.2.2.2.1
def zS (σ : Hp) : Nat := σ.2.2.2.2.2.2
def up2 {α : Type} (f : Nat → Nat → α) (a k : Nat) (v : α) : Nat → Nat → α := fun b j => if b = a ∧ j = k then v else f b j
theorem up2_s {α : Type} (f : Nat → Nat → α) (a k : Nat) (v : α) : up2 f a k v a k = v := by simp [up2]
theorem up2_a {α : Type} (f : Nat → Nat → α) {a k : Nat} (v : α) {b j : Nat} (h : b ≠ a) : up2 f a k v b j = f b j := by simp [up2, h]
theorem up2_k {α : Type} (f : Nat → Nat → α) {a k : Nat} (v : α) {b j : Nat} (h : j ≠ k) : up2 f a k v b j = f b j := by simp [up2, h]
def wI (σ : Hp) (a k : Nat) (v : Int32) : Hp := (zK σ, zN σ, up2 (zI σ) a k v, zJ σ, zQ σ, zX σ, zS σ)
def wJ (σ : Hp) (a k : Nat) (v : Int64) : Hp := (zK σ, zN σ, zI σ, up2 (zJ σ) a k v, zQ σ, zX σ, zS σ)
def wQ (σ : Hp) (a k : Nat) (v : Option Nat) : Hp := (zK σ, zN σ, zI σ, zJ σ, up2 (zQ σ) a k v, zX σ, zS σ)
def nw (σ : Hp) (k len sl : Nat) : Hp := (va_up (zK σ) (zX σ) k, va_up (zN σ) (zX σ) len, va_up (zI σ) (zX σ) (fun _ => 0), va_up (zJ σ) (zX σ) (fun _ => 0), va_up (zQ σ) (zX σ) (fun _ => none), zX σ + 1, zS σ + sl)
theorem zK_wI (σ : Hp) (a k : Nat) (v : Int32) : zK (wI σ a k v) = zK σ := rfl
theorem zN_wI (σ : Hp) (a k : Nat) (v : Int32) : zN (wI σ a k v) = zN σ := rfl
theorem zI_wI (σ : Hp) (a k : Nat) (v : Int32) : zI (wI σ a k v) = up2 (zI σ) a k v := rfl
theorem zJ_wI (σ : Hp) (a k : Nat) (v : Int32) : zJ (wI σ a k v) = zJ σ := rfl
theorem zQ_wI (σ : Hp) (a k : Nat) (v : Int32) : zQ (wI σ a k v) = zQ σ := rfl
theorem zX_wI (σ : Hp) (a k : Nat) (v : Int32) : zX (wI σ a k v) = zX σ := rfl
theorem zS_wI (σ : Hp) (a k : Nat) (v : Int32) : zS (wI σ a k v) = zS σ := rfl
theorem zK_wJ (σ : Hp) (a k : Nat) (v : Int64) : zK (wJ σ a k v) = zK σ := rfl
theorem zN_wJ (σ : Hp) (a k : Nat) (v : Int64) : zN (wJ σ a k v) = zN σ := rfl
theorem zI_wJ (σ : Hp) (a k : Nat) (v : Int64) : zI (wJ σ a k v) = zI σ := rfl
theorem zJ_wJ (σ : Hp) (a k : Nat) (v : Int64) : zJ (wJ σ a k v) = up2 (zJ σ) a k v := rfl
theorem zQ_wJ (σ : Hp) (a k : Nat) (v : Int64) : zQ (wJ σ a k v) = zQ σ := rfl
theorem zX_wJ (σ : Hp) (a k : Nat) (v : Int64) : zX (wJ σ a k v) = zX σ := rfl
theorem zS_wJ (σ : Hp) (a k : Nat) (v : Int64) : zS (wJ σ a k v) = zS σ := rfl
theorem zK_wQ (σ : Hp) (a k : Nat) (v : Option Nat) : zK (wQ σ a k v) = zK σ := rfl
theorem zN_wQ (σ : Hp) (a k : Nat) (v : Option Nat) : zN (wQ σ a k v) = zN σ := rfl
theorem zI_wQ (σ : Hp) (a k : Nat) (v : Option Nat) : zI (wQ σ a k v) = zI σ := rfl
theorem zJ_wQ (σ : Hp) (a k : Nat) (v : Option Nat) : zJ (wQ σ a k v) = zJ σ := rfl
theorem zQ_wQ (σ : Hp) (a k : Nat) (v : Option Nat) : zQ (wQ σ a k v) = up2 (zQ σ) a k v := rfl
theorem zX_wQ (σ : Hp) (a k : Nat) (v : Option Nat) : zX (wQ σ a k v) = zX σ := rfl
theorem zS_wQ (σ : Hp) (a k : Nat) (v : Option Nat) : zS (wQ σ a k v) = zS σ := rfl
theorem zK_nw (σ : Hp) (k len sl : Nat) : zK (nw σ k len sl) = va_up (zK σ) (zX σ) k := rfl
theorem zN_nw (σ : Hp) (k len sl : Nat) : zN (nw σ k len sl) = va_up (zN σ) (zX σ) len := rfl
theorem zI_nw (σ : Hp) (k len sl : Nat) : zI (nw σ k len sl) = va_up (zI σ) (zX σ) (fun _ => 0) := rfl
theorem zJ_nw (σ : Hp) (k len sl : Nat) : zJ (nw σ k len sl) = va_up (zJ σ) (zX σ) (fun _ => 0) := rfl
theorem zQ_nw (σ : Hp) (k len sl : Nat) : zQ (nw σ k len sl) = va_up (zQ σ) (zX σ) (fun _ => none) := rfl
theorem zX_nw (σ : Hp) (k len sl : Nat) : zX (nw σ k len sl) = zX σ + 1 := rfl
theorem zS_nw (σ : Hp) (k len sl : Nat) : zS (nw σ k len sl) = zS σ + sl := rfl
/-! the classes of the worlds, and their fields' kinds: 0 an int, 1 a long, 2 a reference -/
abbrev vwCl : List vw_C := [(RX0, TX0, 1), (RX1, TX1, 2), (RX2, TX2, 17), (RX3, TX3, 5), (RX4, TX4, 8), (RX5, TX5, 11), (RX6, TX6, 2), (RX7, TX7, 9), (RX9, TX9, 9), (RX10, TX10, 57)]
def cT (k : Nat) : vw_C := vwCl.getD k (RX8, TX8, 0)
def tyC (k : Nat) : Nat → FieldType := match k with
  | 0 => tyX0
  | 1 => tyX1
  | 2 => tyX2
  | 3 => tyX3
  | 4 => tyX4
  | 5 => tyX5
  | 6 => tyX6
  | 7 => tyX7
  | 8 => tyX9
  | 9 => tyX10
  | _ => tyX8
def tcd (t : FieldType) : Nat := match t with
  | .long => 1
  | .object _ => 2
  | .array _ => 2
  | _ => 0
def fT (k j : Nat) : Nat := tcd (tyC k j)
def eT (k : Nat) : Nat := if k = 21 then 1 else if k = 24 ∨ k = 25 then 2 else 0
def aT (k : Nat) : FieldType := match k with
  | 20 => .int
  | 21 => .long
  | 22 => .byte
  | 23 => .boolean
  | 24 => .object RX3
  | _ => .object RX4
def fv (σ : Hp) (a j c : Nat) : Value := match c with
  | 0 => .int (zI σ a j)
  | 1 => .long (zJ σ a j)
  | _ => va_rf (zQ σ a j)
theorem cT_some {k : Nat} (h : k < 10) : vwCl[k]? = some (cT k) := by
  match k, h with
  | 0, _ => rfl
  | 1, _ => rfl
  | 2, _ => rfl
  | 3, _ => rfl
  | 4, _ => rfl
  | 5, _ => rfl
  | 6, _ => rfl
  | 7, _ => rfl
  | 8, _ => rfl
  | 9, _ => rfl
/-! ===== what stays the same over the law's run: classes' numbers, arrays' classes, the heap at the law's start, what else is known of a state, the first new address, how far addresses and slots may go ===== -/
abbrev GG : Type := va_G × (Nat → ClassId) × Heap × (State → Prop) × Nat × Nat × Nat
abbrev gD (G : GG) : va_G := G.1
abbrev gA (G : GG) : Nat → ClassId := G.2.1
abbrev gH (G : GG) : Heap := G.2.2.1
abbrev gE (G : GG) : State → Prop := G.2.2.2.1
abbrev gB (G : GG) : Nat := G.2.2.2.2.1
abbrev gC (G : GG) : Nat := G.2.2.2.2.2.1
abbrev gS (G : GG) : Nat := G.2.2.2.2.2.2
def at_ (G : GG) (σ : Hp) (a : Nat) (H : Heap) : Prop :=
  if zK σ a < 10 then t_OB a ((gD G).1 (zK σ a)) (cT (zK σ a)).2.2 ((gD G).2 (zK σ a)) H (fun j => fv σ a j (fT (zK σ a) j))
  else if 20 ≤ zK σ a ∧ zK σ a < 26 then H[a]? = some (arrV (gA G (zK σ a)) (zN σ a) (fun j => fv σ a j (eT (zK σ a)))) else True
def nS (H : Heap) (n : Nat) : Nat := ((H.toList.drop n).map (fun c => c.slots.size)).sum
def Wd (G : GG) (σ : Hp) (H : Heap) : Prop :=
  H.size = zX σ ∧ gB G ≤ zX σ ∧ zX σ ≤ gC G ∧ zS σ ≤ gS G ∧ nS H (gB G) = zS σ ∧ (∀ q, q < gB G → H[q]? = (gH G)[q]?) ∧ (∀ a, zK σ a < 26 → gB G ≤ a ∧ a < zX σ) ∧ ∀ a, at_ G σ a H
def tysG (G : GG) : List (ClassId × FieldType) := [(gA G 20, aT 20), (gA G 21, aT 21), (gA G 22, aT 22), (gA G 23, aT 23), (gA G 24, aT 24), (gA G 25, aT 25)]
theorem tysG_at (G : GG) {k : Nat} (h : 20 ≤ k ∧ k < 26) : (tysG G)[k - 20]? = some (gA G k, aT k) := by
  obtain ⟨h1, h2⟩ := h
  have h3 : k = 20 ∨ k = 21 ∨ k = 22 ∨ k = 23 ∨ k = 24 ∨ k = 25 := by omega
  rcases h3 with rfl | rfl | rfl | rfl | rfl | rfl <;> rfl
def Ok (G : GG) (s : State) : Prop := va_K (gD G) vwCl (tysG G) s ∧ gE G s ∧ (∀ u U : State, u.WarmedH U.vm → gE G u → gE G U) ∧ ∀ u U : State, u.vm = U.vm → gE G u → gE G U
theorem Ok.warm {G : GG} {s U : State} (hW : s.WarmedH U.vm) (h : Ok G s) : Ok G U := ⟨h.1.moved hW.alike, h.2.2.1 s U hW h.2.1, h.2.2⟩
theorem Ok.same {G : GG} {s U : State} (hv : s.vm = U.vm) (h : Ok G s) : Ok G U := ⟨h.1.moved (by rw [hv]; exact Vm.Alike.refl U.vm), h.2.2.2 s U hv h.2.1, h.2.2⟩
/-- a method: its name, its bytes, its locals, what it returns -/
abbrev MI : Type := MethodName × ByteArray × Nat × Option FieldType
def WS : List Cond := lw_tbl.filter goodWord
def LV (ls : Array Slot) (nL : Nat) (L : List (Option Value)) : Prop := ls.size = nL ∧ lv_wf ls ∧ ∀ (j : Nat) (v : Value), L[j]? = some (some v) → ls[j]? = some (.val v)
def asc (L : List (Option Value)) : List (Nat × Value) := (List.range L.length).filterMap (fun j => (L.getD j none).map (fun v => (j, v)))
theorem asc_in {L : List (Option Value)} {j : Nat} {v : Value} : (j, v) ∈ asc L ↔ L[j]? = some (some v) := by
  unfold asc
  rw [List.mem_filterMap]
  constructor
  · rintro ⟨i, hi, h⟩
    rw [List.mem_range] at hi
    rw [List.getD_eq_getElem?_getD, List.getElem?_eq_getElem hi] at h
    rw [Option.map_eq_some_iff] at h
    obtain ⟨w, h1, h2⟩ := h
    cases h2
    rw [List.getElem?_eq_getElem hi]
    simpa using h1
  · intro h
    obtain ⟨hl, he⟩ := List.getElem?_eq_some_iff.mp h
    exact ⟨j, List.mem_range.mpr hl, by rw [List.getD_eq_getElem?_getD, h]; rfl⟩
theorem LV.has {ls : Array Slot} {nL : Nat} {L : List (Option Value)} (h : LV ls nL L) : lv_has ls nL (asc L) := ⟨h.1, h.2.1, fun q hq => h.2.2 q.1 q.2 (asc_in.mp hq)⟩
theorem LV.at {ls : Array Slot} {nL : Nat} {L : List (Option Value)} (h : LV ls nL L) {i : Nat} {v : Value} (hk : L[i]? = some (some v)) : ls[i]? = some (.val v) := h.2.2 i v hk
/-- no long stands just ahead of the place -/
def okP (L : List (Option Value)) (i : Nat) : Bool := match i with
  | 0 => true
  | j + 1 => match L.getD j none with
    | some v => v.category != 2
    | none => true
theorem okP_ne {L : List (Option Value)} {i j : Nat} {w : Value} (h : okP L i = true) (hj : L[j]? = some (some w)) (e : j + 1 = i) : ¬ w.category = 2 := by
  subst e
  have h2 : (match L.getD j none with | some v => v.category != 2 | none => true) = true := h
  rw [List.getD_eq_getElem?_getD, hj] at h2
  simpa using h2
theorem LV.of1 {ls' : Array Slot} {nL i : Nat} {L : List (Option Value)} {v : Value} (h : lv_has ls' nL ((i, v) :: (asc L).filter (fun q => !(q.1 == i) && !(q.1 + 1 == i && q.2.category == 2)))) (ho : okP L i = true) : LV ls' nL (L.set i (some v)) := by
  refine ⟨h.1, h.2.1, fun j w hj => ?_⟩
  by_cases e : j = i
  · subst e
    rw [List.getElem?_set] at hj
    simp only [if_true] at hj
    split at hj
    · cases hj
      exact h.2.2 (j, v) List.mem_cons_self
    · cases hj
  · rw [List.getElem?_set_ne (fun q => e q.symm)] at hj
    refine h.2.2 (j, w) (List.mem_cons_of_mem _ (List.mem_filter.mpr ⟨asc_in.mpr hj, ?_⟩))
    have h1 : (j == i) = false := by simpa using e
    simp only [h1, Bool.not_false, Bool.true_and, Bool.not_eq_true', Bool.and_eq_false_iff]
    by_cases e2 : j + 1 = i
    · exact Or.inr (by simpa using okP_ne ho hj e2)
    · exact Or.inl (by simpa using e2)
theorem LV.of2 {ls' : Array Slot} {nL i : Nat} {L : List (Option Value)} {v : Value} (h : lv_has ls' nL ((i, v) :: (asc L).filter (fun q => !(q.1 == i) && (!(q.1 == i + 1) && !(q.1 + 1 == i && q.2.category == 2))))) (ho : okP L i = true) : LV ls' nL ((L.set i (some v)).set (i + 1) none) := by
  refine ⟨h.1, h.2.1, fun j w hj => ?_⟩
  by_cases e3 : j = i + 1
  · subst e3
    rw [List.getElem?_set] at hj
    simp only [if_true] at hj
    split at hj <;> cases hj
  · rw [List.getElem?_set_ne (fun q => e3 q.symm)] at hj
    by_cases e : j = i
    · subst e
      rw [List.getElem?_set] at hj
      simp only [if_true] at hj
      split at hj
      · cases hj
        exact h.2.2 (j, v) List.mem_cons_self
      · cases hj
    · rw [List.getElem?_set_ne (fun q => e q.symm)] at hj
      refine h.2.2 (j, w) (List.mem_cons_of_mem _ (List.mem_filter.mpr ⟨asc_in.mpr hj, ?_⟩))
      have h1 : (j == i) = false := by simpa using e
      have h2 : (j == i + 1) = false := by simpa using e3
      simp only [h1, h2, Bool.not_false, Bool.true_and, Bool.not_eq_true', Bool.and_eq_false_iff]
      by_cases e2 : j + 1 = i
      · exact Or.inr (by simpa using okP_ne ho hj e2)
      · exact Or.inl (by simpa using e2)
/-! ===== the machine's context of a method's body ===== -/
def Cx (G : GG) (M : MI) (p : Program) (R : Room) (s : State) (m : MethodId) (args : Array Value) (meth : Method) (c : Code) : Prop :=
  p.tables.exec = Jvm.exec ∧ c.code = M.2.1 ∧ meth.sig.returnType = M.2.2.2 ∧ c.maxLocals = M.2.2.1 ∧ s.vm.findClass M.1.cls = some m.cls ∧ meth.locks = false ∧ meth.name = M.1.name ∧ (∀ w ∈ WS, w.before args s = true) ∧ Ok G s ∧ gB G ≤ s.heap.size ∧ gC G ≤ s.heap.size + R.cells ∧ gS G ≤ nS s.heap (gB G) + R.slots
abbrev WX (p : Program) (l : Launch) (e : Env) (R : Room) (s : State) (m : MethodId) (args : Array Value) (below : List Frame) (meth : Method) (c : Code) (H : Heap) (locs : List Loc) (Z : State → Prop) (g : JFrame) : Prop := W p l e R s m args below meth c H locs (H.size - s.heap.size) (nS H s.heap.size) Z g
def RetAt (M : MI) (pc : Nat) (v : Option Value) : Prop := match v with
  | none => decode M.2.1 pc = .ok (.return_, 1) ∧ M.2.2.2 = none
  | some (.int x) => decode M.2.1 pc = .ok (.ireturn, 1) ∧ ∃ ty, M.2.2.2 = some ty ∧ narrow ty (.int x) = .int x
  | some (.long _) => decode M.2.1 pc = .ok (.lreturn, 1) ∧ M.2.2.2 = some .long
  | some .null => decode M.2.1 pc = .ok (.areturn, 1) ∧ ∃ ty, M.2.2.2 = some ty ∧ ((∃ n, ty = .object n) ∨ ∃ t, ty = .array t)
  | some (.ref _) => decode M.2.1 pc = .ok (.areturn, 1) ∧ ∃ ty, M.2.2.2 = some ty ∧ ((∃ n, ty = .object n) ∨ ∃ t, ty = .array t)
  | _ => False
/-- THE TRIPLE: method M at pc, locals L, operands st, over the heap σ, with frames for d more calls: it comes to its return, and then Q -/
def HT (G : GG) (M : MI) (pc : Nat) (L : List (Option Value)) (st : List Value) (σ : Hp) (d : Nat) (Q : Option Value → Hp → Prop) : Prop :=
  ∀ (l : Launch) (p : Program) (e : Env) (R : Room) (s : State) (m : MethodId) (args : Array Value) (below : List Frame) (meth : Method) (c : Code) (H : Heap) (locs : List Loc) (ls : Array Slot) (Z : State → Prop),
    Cx G M p R s m args meth c → d ≤ R.frames → 64 * d ≤ R.locals → Wd G σ H → LV ls M.2.2.1 L → (∀ q ∈ locs, gB G ≤ q.base) →
    (∀ (v : Option Value) (σ' : Hp) (H' : Heap) (locs' : List Loc) (pc' : Nat) (ls' : Array Slot), Q v σ' → Wd G σ' H' → (∀ q ∈ locs', gB G ≤ q.base) → RetAt M pc' v → WX p l e R s m args below meth c H' locs' Z (F0 m pc' ls' v.toList)) →
    WX p l e R s m args below meth c H locs Z (F0 m pc ls st)
section Tight
variable {p : Program} {l : Launch} {e : Env} {R : Room} {s : State} {m : MethodId} {args : Array Value} {below : List Frame} {meth : Method} {c : Code} {H : Heap} {locs : List Loc} {cells slots : Nat} {Z : State → Prop} {g : JFrame} {T : State}
theorem st_tight (X : Stand p l e R s m args below meth c T locs cells slots) : Stand p l e R s m args below meth c T locs (T.heap.size - s.heap.size) (nS T.heap s.heap.size) := by
  have h := X.same
  have hz : s.heap.size ≤ T.heap.size := h.2.1
  refine { X with same := ⟨h.1, h.2.1, ?_, h.2.2.2.1, Nat.le_refl _, h.2.2.2.2.2⟩ }
  show T.heap.size ≤ s.heap.size + (T.heap.size - s.heap.size)
  omega
theorem w_tight (k : WX p l e R s m args below meth c H locs Z g) : W p l e R s m args below meth c H locs cells slots Z g := by
  intro T hT X
  subst hT
  exact k T rfl (st_tight X)
theorem st_size (X : Stand p l e R s m args below meth c T locs cells slots) : s.heap.size ≤ T.heap.size := X.same.2.1
theorem nS_split {H0 H1 : Heap} {b : Nat} (hb : b ≤ H0.size) (hz : H0.size ≤ H1.size) (hs : ∀ (a : Nat) (c : Cell), H0[a]? = some c → ∃ c' : Cell, H1[a]? = some c' ∧ c'.slots.size = c.slots.size) : nS H1 b = nS H0 b + nS H1 H0.size := by
  have key : (H1.toList.take H0.size).map (fun c => c.slots.size) = H0.toList.map (fun c => c.slots.size) := by
    apply List.ext_getElem?
    intro i
    rw [List.getElem?_map, List.getElem?_map, List.getElem?_take]
    by_cases hi : i < H0.size
    · rw [if_pos hi, Array.getElem?_toList, Array.getElem?_toList]
      obtain ⟨c', h1, h2⟩ := hs i H0[i] (Array.getElem?_eq_getElem hi)
      rw [h1, Array.getElem?_eq_getElem hi]
      simp [h2]
    · rw [if_neg hi]
      simp [Nat.not_lt.mp hi]
  have h1 : H1.toList.drop b = (H1.toList.take H0.size).drop b ++ H1.toList.drop H0.size := by
    rw [List.drop_take]
    have : H1.toList.drop H0.size = (H1.toList.drop b).drop (H0.size - b) := by rw [List.drop_drop]; congr 1; omega
    rw [this, List.take_append_drop]
  unfold nS
  rw [h1, List.map_append, List.sum_append, List.map_drop, key, ← List.map_drop]
theorem st_nS {b : Nat} (hb : b ≤ s.heap.size) (X : Stand p l e R s m args below meth c T locs cells slots) : nS T.heap b = nS s.heap b + nS T.heap s.heap.size := by
  refine nS_split hb (st_size X) fun a c hc => ?_
  obtain ⟨c', h1, -, h2, -⟩ := X.same.2.2.2.2.2 a c hc
  exact ⟨c', h1, h2⟩
theorem nS_same {H0 H1 : Heap} {b : Nat} (hz : H1.size = H0.size) (hs : ∀ (a : Nat) (c : Cell), H0[a]? = some c → ∃ c' : Cell, H1[a]? = some c' ∧ c'.slots.size = c.slots.size) : nS H1 b = nS H0 b := by
  have key : H1.toList.map (fun c => c.slots.size) = H0.toList.map (fun c => c.slots.size) := by
    apply List.ext_getElem?
    intro i
    rw [List.getElem?_map, List.getElem?_map, Array.getElem?_toList, Array.getElem?_toList]
    by_cases hi : i < H0.size
    · obtain ⟨c', h1, h2⟩ := hs i H0[i] (Array.getElem?_eq_getElem hi)
      rw [h1, Array.getElem?_eq_getElem hi]
      simp [h2]
    · rw [Array.getElem?_eq_none (by omega), Array.getElem?_eq_none (by omega)]
  unfold nS
  rw [List.map_drop, key, ← List.map_drop]
theorem nS_push {H0 H1 : Heap} {b : Nat} {x : Cell} (hb : b ≤ H0.size) (hz : H1.size = H0.size + 1) (hs : ∀ a : Nat, a < H0.size → H1[a]? = H0[a]?) (hx : H1[H0.size]? = some x) : nS H1 b = nS H0 b + x.slots.size := by
  rw [nS_split (H0 := H0) (H1 := H1) hb (by omega) fun a c hc => ⟨c, by rw [hs a (Array.getElem?_eq_some_iff.mp hc).1]; exact hc, rfl⟩]
  congr 1
  unfold nS
  have h2 : H1.toList.drop H0.size = [x] := by
    apply List.ext_getElem?
    intro i
    rw [List.getElem?_drop, Array.getElem?_toList]
    cases i with
    | zero => simpa using hx
    | succ i => rw [Array.getElem?_eq_none (by omega)]; rfl
  rw [h2]
  simp
end Tight
end
section
section Rules
variable {G : GG} {M : MI} {pc : Nat} {L : List (Option Value)} {st : List Value} {σ : Hp} {d : Nat} {Q : Option Value → Hp → Prop}
/-- a step that touches the operands alone -/
theorem ht_of {pc' : Nat} {st' : List Value} (h : ∀ (p : Program) (l : Launch) (e : Env) (R : Room) (s : State) (m : MethodId) (args : Array Value) (below : List Frame) (meth : Method) (c : Code) (H : Heap) (locs : List Loc) (cells slots : Nat) (Z : State → Prop) (ls : Array Slot), p.tables.exec = Jvm.exec → c.code = M.2.1 → LV ls M.2.2.1 L → W p l e R s m args below meth c H locs cells slots Z (F0 m pc' ls st') → W p l e R s m args below meth c H locs cells slots Z (F0 m pc ls st))
    (k : HT G M pc' L st' σ d Q) : HT G M pc L st σ d Q :=
  fun l p e R s m args below meth c H locs ls Z C hf hl hw hL hq hz => h p l e R s m args below meth c H locs _ _ Z ls C.1 C.2.1 hL (k l p e R s m args below meth c H locs ls Z C hf hl hw hL hq hz)
/-- a step to two places -/
theorem ht_of2 {pt pf : Nat} {st' : List Value} {P : Prop} (h : ∀ (p : Program) (l : Launch) (e : Env) (R : Room) (s : State) (m : MethodId) (args : Array Value) (below : List Frame) (meth : Method) (c : Code) (H : Heap) (locs : List Loc) (cells slots : Nat) (Z : State → Prop) (ls : Array Slot), p.tables.exec = Jvm.exec → c.code = M.2.1 → (P → W p l e R s m args below meth c H locs cells slots Z (F0 m pt ls st')) → (¬ P → W p l e R s m args below meth c H locs cells slots Z (F0 m pf ls st')) → W p l e R s m args below meth c H locs cells slots Z (F0 m pc ls st))
    (kt : P → HT G M pt L st' σ d Q) (kf : ¬ P → HT G M pf L st' σ d Q) : HT G M pc L st σ d Q :=
  fun l p e R s m args below meth c H locs ls Z C hf hl hw hL hq hz => h p l e R s m args below meth c H locs _ _ Z ls C.1 C.2.1 (fun a => kt a l p e R s m args below meth c H locs ls Z C hf hl hw hL hq hz) (fun a => kf a l p e R s m args below meth c H locs ls Z C hf hl hw hL hq hz)
/-- a step that changes the locals -/
theorem ht_ofL {pc' : Nat} {st' : List Value} {L' : List (Option Value)} (h : ∀ (p : Program) (l : Launch) (e : Env) (R : Room) (s : State) (m : MethodId) (args : Array Value) (below : List Frame) (meth : Method) (c : Code) (H : Heap) (locs : List Loc) (cells slots : Nat) (Z : State → Prop) (ls : Array Slot), p.tables.exec = Jvm.exec → c.code = M.2.1 → LV ls M.2.2.1 L → (∀ ls' : Array Slot, LV ls' M.2.2.1 L' → W p l e R s m args below meth c H locs cells slots Z (F0 m pc' ls' st')) → W p l e R s m args below meth c H locs cells slots Z (F0 m pc ls st))
    (k : HT G M pc' L' st' σ d Q) : HT G M pc L st σ d Q :=
  fun l p e R s m args below meth c H locs ls Z C hf hl hw hL hq hz => h p l e R s m args below meth c H locs _ _ Z ls C.1 C.2.1 hL (fun ls' hL' => k l p e R s m args below meth c H locs ls' Z C hf hl hw hL' hq hz)

theorem ht_iconst {n : Int} {v : Int32} (hd : decode M.2.1 pc = .ok (.iconst n, 1)) (hv : Int32.ofInt n = v) (k : HT G M (pc + 1) L (.int v :: st) σ d Q) : HT G M pc L (st) σ d Q := ht_of (fun _ _ _ _ _ _ _ _ _ _ _ _ _ _ _ ls hx hb hL w => lv_iconst hx hb hd hv w) k
theorem ht_bipush {n : Int} {v : Int32} (hd : decode M.2.1 pc = .ok (.bipush n, 2)) (hv : (Int8.ofInt n).toInt32 = v) (k : HT G M (pc + 2) L (.int v :: st) σ d Q) : HT G M pc L (st) σ d Q := ht_of (fun _ _ _ _ _ _ _ _ _ _ _ _ _ _ _ ls hx hb hL w => lv_bipush hx hb hd hv w) k
theorem ht_sipush {n : Int} {v : Int32} (hd : decode M.2.1 pc = .ok (.sipush n, 3)) (hv : (Int16.ofInt n).toInt32 = v) (k : HT G M (pc + 3) L (.int v :: st) σ d Q) : HT G M pc L (st) σ d Q := ht_of (fun _ _ _ _ _ _ _ _ _ _ _ _ _ _ _ ls hx hb hL w => lv_sipush hx hb hd hv w) k
theorem ht_null (hd : decode M.2.1 pc = .ok (.aconst_null, 1)) (k : HT G M (pc + 1) L (.null :: st) σ d Q) : HT G M pc L (st) σ d Q := ht_of (fun _ _ _ _ _ _ _ _ _ _ _ _ _ _ _ ls hx hb hL w => lv_null hx hb hd w) k
theorem ht_iload_n {k : Fin 4} {i : Nat} {x : Int32} (hd : decode M.2.1 pc = .ok (.iload_n k, 1)) (hi : (k : Nat) = i) (hv : L[i]? = some (some (.int x))) (k : HT G M (pc + 1) L (.int x :: st) σ d Q) : HT G M pc L (st) σ d Q := ht_of (fun _ _ _ _ _ _ _ _ _ _ _ _ _ _ _ ls hx hb hL w => lv_iload_n hx hb hd hi (hL.at hv) w) k
theorem ht_iload {i : Nat} {x : Int32} (hd : decode M.2.1 pc = .ok (.iload i, 2)) (hv : L[i]? = some (some (.int x))) (k : HT G M (pc + 2) L (.int x :: st) σ d Q) : HT G M pc L (st) σ d Q := ht_of (fun _ _ _ _ _ _ _ _ _ _ _ _ _ _ _ ls hx hb hL w => lv_iload hx hb hd (hL.at hv) w) k
theorem ht_lload_n {k : Fin 4} {i : Nat} {x : Int64} (hd : decode M.2.1 pc = .ok (.lload_n k, 1)) (hi : (k : Nat) = i) (hv : L[i]? = some (some (.long x))) (k : HT G M (pc + 1) L (.long x :: st) σ d Q) : HT G M pc L (st) σ d Q := ht_of (fun _ _ _ _ _ _ _ _ _ _ _ _ _ _ _ ls hx hb hL w => lv_lload_n hx hb hd hi (hL.at hv) w) k
theorem ht_lload {i : Nat} {x : Int64} (hd : decode M.2.1 pc = .ok (.lload i, 2)) (hv : L[i]? = some (some (.long x))) (k : HT G M (pc + 2) L (.long x :: st) σ d Q) : HT G M pc L (st) σ d Q := ht_of (fun _ _ _ _ _ _ _ _ _ _ _ _ _ _ _ ls hx hb hL w => lv_lload hx hb hd (hL.at hv) w) k
theorem ht_aload_n {k : Fin 4} {i : Nat} {x : Nat} (hd : decode M.2.1 pc = .ok (.aload_n k, 1)) (hi : (k : Nat) = i) (hv : L[i]? = some (some (.ref x))) (k : HT G M (pc + 1) L (.ref x :: st) σ d Q) : HT G M pc L (st) σ d Q := ht_of (fun _ _ _ _ _ _ _ _ _ _ _ _ _ _ _ ls hx hb hL w => lv_aload_n hx hb hd hi (hL.at hv) w) k
theorem ht_aload {i : Nat} {x : Nat} (hd : decode M.2.1 pc = .ok (.aload i, 2)) (hv : L[i]? = some (some (.ref x))) (k : HT G M (pc + 2) L (.ref x :: st) σ d Q) : HT G M pc L (st) σ d Q := ht_of (fun _ _ _ _ _ _ _ _ _ _ _ _ _ _ _ ls hx hb hL w => lv_aload hx hb hd (hL.at hv) w) k
theorem ht_iadd {x y : Int32} (hd : decode M.2.1 pc = .ok (.iadd, 1)) (k : HT G M (pc + 1) L (.int (x + y) :: st) σ d Q) : HT G M pc L (.int y :: .int x :: st) σ d Q := ht_of (fun _ _ _ _ _ _ _ _ _ _ _ _ _ _ _ ls hx hb hL w => lv_iadd hx hb hd w) k
theorem ht_isub {x y : Int32} (hd : decode M.2.1 pc = .ok (.isub, 1)) (k : HT G M (pc + 1) L (.int (x - y) :: st) σ d Q) : HT G M pc L (.int y :: .int x :: st) σ d Q := ht_of (fun _ _ _ _ _ _ _ _ _ _ _ _ _ _ _ ls hx hb hL w => lv_isub hx hb hd w) k
theorem ht_imul {x y : Int32} (hd : decode M.2.1 pc = .ok (.imul, 1)) (k : HT G M (pc + 1) L (.int (x * y) :: st) σ d Q) : HT G M pc L (.int y :: .int x :: st) σ d Q := ht_of (fun _ _ _ _ _ _ _ _ _ _ _ _ _ _ _ ls hx hb hL w => lv_imul hx hb hd w) k
theorem ht_iand {x y : Int32} (hd : decode M.2.1 pc = .ok (.iand, 1)) (k : HT G M (pc + 1) L (.int (x &&& y) :: st) σ d Q) : HT G M pc L (.int y :: .int x :: st) σ d Q := ht_of (fun _ _ _ _ _ _ _ _ _ _ _ _ _ _ _ ls hx hb hL w => lv_iand hx hb hd w) k
theorem ht_ior {x y : Int32} (hd : decode M.2.1 pc = .ok (.ior, 1)) (k : HT G M (pc + 1) L (.int (x ||| y) :: st) σ d Q) : HT G M pc L (.int y :: .int x :: st) σ d Q := ht_of (fun _ _ _ _ _ _ _ _ _ _ _ _ _ _ _ ls hx hb hL w => lv_ior hx hb hd w) k
theorem ht_ixor {x y : Int32} (hd : decode M.2.1 pc = .ok (.ixor, 1)) (k : HT G M (pc + 1) L (.int (x ^^^ y) :: st) σ d Q) : HT G M pc L (.int y :: .int x :: st) σ d Q := ht_of (fun _ _ _ _ _ _ _ _ _ _ _ _ _ _ _ ls hx hb hL w => lv_ixor hx hb hd w) k
theorem ht_ladd {x y : Int64} (hd : decode M.2.1 pc = .ok (.ladd, 1)) (k : HT G M (pc + 1) L (.long (x + y) :: st) σ d Q) : HT G M pc L (.long y :: .long x :: st) σ d Q := ht_of (fun _ _ _ _ _ _ _ _ _ _ _ _ _ _ _ ls hx hb hL w => lv_ladd hx hb hd w) k
theorem ht_lsub {x y : Int64} (hd : decode M.2.1 pc = .ok (.lsub, 1)) (k : HT G M (pc + 1) L (.long (x - y) :: st) σ d Q) : HT G M pc L (.long y :: .long x :: st) σ d Q := ht_of (fun _ _ _ _ _ _ _ _ _ _ _ _ _ _ _ ls hx hb hL w => lv_lsub hx hb hd w) k
theorem ht_lmul {x y : Int64} (hd : decode M.2.1 pc = .ok (.lmul, 1)) (k : HT G M (pc + 1) L (.long (x * y) :: st) σ d Q) : HT G M pc L (.long y :: .long x :: st) σ d Q := ht_of (fun _ _ _ _ _ _ _ _ _ _ _ _ _ _ _ ls hx hb hL w => lv_lmul hx hb hd w) k
theorem ht_land {x y : Int64} (hd : decode M.2.1 pc = .ok (.land, 1)) (k : HT G M (pc + 1) L (.long (x &&& y) :: st) σ d Q) : HT G M pc L (.long y :: .long x :: st) σ d Q := ht_of (fun _ _ _ _ _ _ _ _ _ _ _ _ _ _ _ ls hx hb hL w => lv_land hx hb hd w) k
theorem ht_lor {x y : Int64} (hd : decode M.2.1 pc = .ok (.lor, 1)) (k : HT G M (pc + 1) L (.long (x ||| y) :: st) σ d Q) : HT G M pc L (.long y :: .long x :: st) σ d Q := ht_of (fun _ _ _ _ _ _ _ _ _ _ _ _ _ _ _ ls hx hb hL w => lv_lor hx hb hd w) k
theorem ht_lconst {n : Fin 2} {v : Int64} (hd : decode M.2.1 pc = .ok (.lconst n, 1)) (hv : Int64.ofNat (n : Nat) = v) (k : HT G M (pc + 1) L (.long v :: st) σ d Q) : HT G M pc L (st) σ d Q := ht_of (fun _ _ _ _ _ _ _ _ _ _ _ _ _ _ _ ls hx hb hL w => lv_lconst hx hb hd hv w) k
theorem ht_aload_nN {k : Fin 4} {i : Nat} (hd : decode M.2.1 pc = .ok (.aload_n k, 1)) (hi : (k : Nat) = i) (hv : L[i]? = some (some .null)) (k : HT G M (pc + 1) L (.null :: st) σ d Q) : HT G M pc L (st) σ d Q := ht_of (fun _ _ _ _ _ _ _ _ _ _ _ _ _ _ _ ls hx hb hL w => lv_aload_nN hx hb hd hi (hL.at hv) w) k
theorem ht_aloadN {i : Nat} (hd : decode M.2.1 pc = .ok (.aload i, 2)) (hv : L[i]? = some (some .null)) (k : HT G M (pc + 2) L (.null :: st) σ d Q) : HT G M pc L (st) σ d Q := ht_of (fun _ _ _ _ _ _ _ _ _ _ _ _ _ _ _ ls hx hb hL w => lv_aloadN hx hb hd (hL.at hv) w) k
theorem ht_idiv {x y : Int32} (hd : decode M.2.1 pc = .ok (.idiv, 1)) (hne : ¬ y = 0) (k : HT G M (pc + 1) L (.int (x / y) :: st) σ d Q) : HT G M pc L (.int y :: .int x :: st) σ d Q := ht_of (fun _ _ _ _ _ _ _ _ _ _ _ _ _ _ _ ls hx hb hL w => lv_idiv hx hb hd hne w) k
theorem ht_irem {x y : Int32} (hd : decode M.2.1 pc = .ok (.irem, 1)) (hne : ¬ y = 0) (k : HT G M (pc + 1) L (.int (x - x / y * y) :: st) σ d Q) : HT G M pc L (.int y :: .int x :: st) σ d Q := ht_of (fun _ _ _ _ _ _ _ _ _ _ _ _ _ _ _ ls hx hb hL w => lv_irem hx hb hd hne w) k
theorem ht_ldiv {x y : Int64} (hd : decode M.2.1 pc = .ok (.ldiv, 1)) (hne : ¬ y = 0) (k : HT G M (pc + 1) L (.long (x / y) :: st) σ d Q) : HT G M pc L (.long y :: .long x :: st) σ d Q := ht_of (fun _ _ _ _ _ _ _ _ _ _ _ _ _ _ _ ls hx hb hL w => lv_ldiv hx hb hd hne w) k
theorem ht_lrem {x y : Int64} (hd : decode M.2.1 pc = .ok (.lrem, 1)) (hne : ¬ y = 0) (k : HT G M (pc + 1) L (.long (x - x / y * y) :: st) σ d Q) : HT G M pc L (.long y :: .long x :: st) σ d Q := ht_of (fun _ _ _ _ _ _ _ _ _ _ _ _ _ _ _ ls hx hb hL w => lv_lrem hx hb hd hne w) k
theorem ht_ineg {x : Int32} (hd : decode M.2.1 pc = .ok (.ineg, 1)) (k : HT G M (pc + 1) L (.int (-x) :: st) σ d Q) : HT G M pc L (.int x :: st) σ d Q := ht_of (fun _ _ _ _ _ _ _ _ _ _ _ _ _ _ _ ls hx hb hL w => lv_ineg hx hb hd w) k
theorem ht_ishl {x y : Int32} (hd : decode M.2.1 pc = .ok (.ishl, 1)) (k : HT G M (pc + 1) L (.int (x <<< (y &&& 31)) :: st) σ d Q) : HT G M pc L (.int y :: .int x :: st) σ d Q := ht_of (fun _ _ _ _ _ _ _ _ _ _ _ _ _ _ _ ls hx hb hL w => lv_ishl hx hb hd w) k
theorem ht_ishr {x y : Int32} (hd : decode M.2.1 pc = .ok (.ishr, 1)) (k : HT G M (pc + 1) L (.int (x >>> (y &&& 31)) :: st) σ d Q) : HT G M pc L (.int y :: .int x :: st) σ d Q := ht_of (fun _ _ _ _ _ _ _ _ _ _ _ _ _ _ _ ls hx hb hL w => lv_ishr hx hb hd w) k
theorem ht_iushr {x y : Int32} (hd : decode M.2.1 pc = .ok (.iushr, 1)) (k : HT G M (pc + 1) L (.int ((x.toUInt32 >>> (y.toUInt32 &&& Int32.toUInt32 31)).toInt32) :: st) σ d Q) : HT G M pc L (.int y :: .int x :: st) σ d Q := ht_of (fun _ _ _ _ _ _ _ _ _ _ _ _ _ _ _ ls hx hb hL w => lv_iushr hx hb hd rfl w) k
theorem ht_lshl {x : Int64} {y : Int32} (hd : decode M.2.1 pc = .ok (.lshl, 1)) (k : HT G M (pc + 1) L (.long (x <<< (y.toInt64 &&& 63)) :: st) σ d Q) : HT G M pc L (.int y :: .long x :: st) σ d Q := ht_of (fun _ _ _ _ _ _ _ _ _ _ _ _ _ _ _ ls hx hb hL w => lv_lshl hx hb hd rfl w) k
theorem ht_lshr {x : Int64} {y : Int32} (hd : decode M.2.1 pc = .ok (.lshr, 1)) (k : HT G M (pc + 1) L (.long (x >>> (y.toInt64 &&& 63)) :: st) σ d Q) : HT G M pc L (.int y :: .long x :: st) σ d Q := ht_of (fun _ _ _ _ _ _ _ _ _ _ _ _ _ _ _ ls hx hb hL w => lv_lshr hx hb hd rfl w) k
theorem ht_lushr {x : Int64} {y : Int32} (hd : decode M.2.1 pc = .ok (.lushr, 1)) (k : HT G M (pc + 1) L (.long ((x.toUInt64 >>> (y.toInt64.toUInt64 &&& Int64.toUInt64 63)).toInt64) :: st) σ d Q) : HT G M pc L (.int y :: .long x :: st) σ d Q := ht_of (fun _ _ _ _ _ _ _ _ _ _ _ _ _ _ _ ls hx hb hL w => lv_lushr hx hb hd rfl w) k
theorem ht_i2l {x : Int32} (hd : decode M.2.1 pc = .ok (.i2l, 1)) (k : HT G M (pc + 1) L (.long x.toInt64 :: st) σ d Q) : HT G M pc L (.int x :: st) σ d Q := ht_of (fun _ _ _ _ _ _ _ _ _ _ _ _ _ _ _ ls hx hb hL w => lv_i2l hx hb hd rfl w) k
theorem ht_l2i {x : Int64} (hd : decode M.2.1 pc = .ok (.l2i, 1)) (k : HT G M (pc + 1) L (.int x.toInt32 :: st) σ d Q) : HT G M pc L (.long x :: st) σ d Q := ht_of (fun _ _ _ _ _ _ _ _ _ _ _ _ _ _ _ ls hx hb hL w => lv_l2i hx hb hd rfl w) k
theorem ht_i2b {x : Int32} (hd : decode M.2.1 pc = .ok (.i2b, 1)) (k : HT G M (pc + 1) L (.int x.toInt8.toInt32 :: st) σ d Q) : HT G M pc L (.int x :: st) σ d Q := ht_of (fun _ _ _ _ _ _ _ _ _ _ _ _ _ _ _ ls hx hb hL w => lv_i2b hx hb hd rfl w) k
theorem ht_i2c {x : Int32} (hd : decode M.2.1 pc = .ok (.i2c, 1)) (k : HT G M (pc + 1) L (.int (x.toUInt32 % 65536).toInt32 :: st) σ d Q) : HT G M pc L (.int x :: st) σ d Q := ht_of (fun _ _ _ _ _ _ _ _ _ _ _ _ _ _ _ ls hx hb hL w => lv_i2c hx hb hd rfl w) k
theorem ht_lcmp {x y : Int64} (hd : decode M.2.1 pc = .ok (.lcmp, 1)) (k : HT G M (pc + 1) L (.int (lg_cmp x y) :: st) σ d Q) : HT G M pc L (.long y :: .long x :: st) σ d Q := ht_of (fun _ _ _ _ _ _ _ _ _ _ _ _ _ _ _ ls hx hb hL w => W.lcmp hx hb hd w) k
theorem ht_dup {va : Value} (hd : decode M.2.1 pc = .ok (.dup, 1)) (hva : va.category = 1) (k : HT G M (pc + 1) L (va :: va :: st) σ d Q) : HT G M pc L (va :: st) σ d Q := ht_of (fun _ _ _ _ _ _ _ _ _ _ _ _ _ _ _ ls hx hb hL w => lv_dup hx hb hd hva w) k
theorem ht_dup2 {va vb : Value} (hd : decode M.2.1 pc = .ok (.dup2, 1)) (hva : va.category = 1) (hvb : vb.category = 1) (k : HT G M (pc + 1) L (va :: vb :: va :: vb :: st) σ d Q) : HT G M pc L (va :: vb :: st) σ d Q := ht_of (fun _ _ _ _ _ _ _ _ _ _ _ _ _ _ _ ls hx hb hL w => lv_dup2_11 hx hb hd hva hvb w) k
theorem ht_dup_x1 {va vb : Value} (hd : decode M.2.1 pc = .ok (.dup_x1, 1)) (hva : va.category = 1) (hvb : vb.category = 1) (k : HT G M (pc + 1) L (va :: vb :: va :: st) σ d Q) : HT G M pc L (va :: vb :: st) σ d Q := ht_of (fun _ _ _ _ _ _ _ _ _ _ _ _ _ _ _ ls hx hb hL w => lv_dup_x1 hx hb hd hva hvb w) k
theorem ht_pop {va : Value} (hd : decode M.2.1 pc = .ok (.pop, 1)) (hva : va.category = 1) (k : HT G M (pc + 1) L (st) σ d Q) : HT G M pc L (va :: st) σ d Q := ht_of (fun _ _ _ _ _ _ _ _ _ _ _ _ _ _ _ ls hx hb hL w => lv_pop hx hb hd hva w) k
theorem ht_topi {x : Int32} (k : ∀ y : Int32, y = x → HT G M pc L (.int y :: st) σ d Q) : HT G M pc L (.int x :: st) σ d Q := k x rfl
theorem ht_topl {x : Int64} (k : ∀ y : Int64, y = x → HT G M pc L (.long y :: st) σ d Q) : HT G M pc L (.long x :: st) σ d Q := k x rfl
theorem ht_istore_n {k : Fin 4} {i : Nat} {x : Int32} (hd : decode M.2.1 pc = .ok (.istore_n k, 1)) (hi : (k : Nat) = i) (hn : i < M.2.2.1) (ho : okP L i = true) (k : HT G M (pc + 1) (L.set i (some (.int x))) st σ d Q) : HT G M pc L (.int x :: st) σ d Q := ht_ofL (fun _ _ _ _ _ _ _ _ _ _ _ _ _ _ _ ls hx hb hL w => lv_istore_n hx hb hd hi hL.has hn rfl (fun ls h => w ls (LV.of1 h ho))) k
theorem ht_istore {i : Nat} {x : Int32} (hd : decode M.2.1 pc = .ok (.istore i, 2)) (hn : i < M.2.2.1) (ho : okP L i = true) (k : HT G M (pc + 2) (L.set i (some (.int x))) st σ d Q) : HT G M pc L (.int x :: st) σ d Q := ht_ofL (fun _ _ _ _ _ _ _ _ _ _ _ _ _ _ _ ls hx hb hL w => lv_istore hx hb hd hL.has hn rfl (fun ls h => w ls (LV.of1 h ho))) k
theorem ht_astore_n {k : Fin 4} {i : Nat} {x : Nat} (hd : decode M.2.1 pc = .ok (.astore_n k, 1)) (hi : (k : Nat) = i) (hn : i < M.2.2.1) (ho : okP L i = true) (k : HT G M (pc + 1) (L.set i (some (.ref x))) st σ d Q) : HT G M pc L (.ref x :: st) σ d Q := ht_ofL (fun _ _ _ _ _ _ _ _ _ _ _ _ _ _ _ ls hx hb hL w => lv_astore_n hx hb hd hi hL.has hn rfl (fun ls h => w ls (LV.of1 h ho))) k
theorem ht_astore {i : Nat} {x : Nat} (hd : decode M.2.1 pc = .ok (.astore i, 2)) (hn : i < M.2.2.1) (ho : okP L i = true) (k : HT G M (pc + 2) (L.set i (some (.ref x))) st σ d Q) : HT G M pc L (.ref x :: st) σ d Q := ht_ofL (fun _ _ _ _ _ _ _ _ _ _ _ _ _ _ _ ls hx hb hL w => lv_astore hx hb hd hL.has hn rfl (fun ls h => w ls (LV.of1 h ho))) k
theorem ht_lstore_n {k : Fin 4} {i : Nat} {x : Int64} (hd : decode M.2.1 pc = .ok (.lstore_n k, 1)) (hi : (k : Nat) = i) (hn : i + 1 < M.2.2.1) (ho : okP L i = true) (k : HT G M (pc + 1) ((L.set i (some (.long x))).set (i + 1) none) st σ d Q) : HT G M pc L (.long x :: st) σ d Q := ht_ofL (fun _ _ _ _ _ _ _ _ _ _ _ _ _ _ _ ls hx hb hL w => lv_lstore_n hx hb hd hi hL.has hn rfl (fun ls h => w ls (LV.of2 h ho))) k
theorem ht_lstore {i : Nat} {x : Int64} (hd : decode M.2.1 pc = .ok (.lstore i, 2)) (hn : i + 1 < M.2.2.1) (ho : okP L i = true) (k : HT G M (pc + 2) ((L.set i (some (.long x))).set (i + 1) none) st σ d Q) : HT G M pc L (.long x :: st) σ d Q := ht_ofL (fun _ _ _ _ _ _ _ _ _ _ _ _ _ _ _ ls hx hb hL w => lv_lstore hx hb hd hL.has hn rfl (fun ls h => w ls (LV.of2 h ho))) k
theorem ht_astore_nN {k : Fin 4} {i : Nat} (hd : decode M.2.1 pc = .ok (.astore_n k, 1)) (hi : (k : Nat) = i) (hn : i < M.2.2.1) (ho : okP L i = true) (k : HT G M (pc + 1) (L.set i (some (.null))) st σ d Q) : HT G M pc L (.null :: st) σ d Q := ht_ofL (fun _ _ _ _ _ _ _ _ _ _ _ _ _ _ _ ls hx hb hL w => lv_astore_nN hx hb hd hi hL.has hn rfl (fun ls h => w ls (LV.of1 h ho))) k
theorem ht_astoreN {i : Nat} (hd : decode M.2.1 pc = .ok (.astore i, 2)) (hn : i < M.2.2.1) (ho : okP L i = true) (k : HT G M (pc + 2) (L.set i (some (.null))) st σ d Q) : HT G M pc L (.null :: st) σ d Q := ht_ofL (fun _ _ _ _ _ _ _ _ _ _ _ _ _ _ _ ls hx hb hL w => lv_astoreN hx hb hd hL.has hn rfl (fun ls h => w ls (LV.of1 h ho))) k
theorem ht_iinc {i : Nat} {n : Int} {x v : Int32} (hd : decode M.2.1 pc = .ok (.iinc i n, 3)) (hl : L[i]? = some (some (.int x))) (hv : x + Int32.ofInt n = v) (hn : i < M.2.2.1) (ho : okP L i = true) (k : HT G M (pc + 3) (L.set i (some (.int v))) st σ d Q) : HT G M pc L st σ d Q := by
  obtain ⟨j, hj⟩ := List.getElem?_of_mem (asc_in.mpr hl)
  exact ht_ofL (fun _ _ _ _ _ _ _ _ _ _ _ _ _ _ _ ls hx hb hL w => lv_iinc hx hb hd hL.has hj hv hn rfl (fun ls h => w ls (LV.of1 h ho))) k
theorem ht_if_eq {x : Int32} {off : Int} {tgt : Nat} (hd : decode M.2.1 pc = .ok (.ifCond .eq off, 3)) (ht : (pc : Int) + off = (tgt : Int)) (kt : x = 0 → HT G M tgt L st σ d Q) (kf : ¬ x = 0 → HT G M (pc + 3) L st σ d Q) : HT G M pc L (.int x :: st) σ d Q := ht_of2 (fun _ _ _ _ _ _ _ _ _ _ _ _ _ _ _ ls hx hb w1 w2 => lv_if_eq hx hb hd ht w1 w2) kt kf
theorem ht_if_lt {x : Int32} {off : Int} {tgt : Nat} (hd : decode M.2.1 pc = .ok (.ifCond .lt off, 3)) (ht : (pc : Int) + off = (tgt : Int)) (kt : x < 0 → HT G M tgt L st σ d Q) (kf : ¬ x < 0 → HT G M (pc + 3) L st σ d Q) : HT G M pc L (.int x :: st) σ d Q := ht_of2 (fun _ _ _ _ _ _ _ _ _ _ _ _ _ _ _ ls hx hb w1 w2 => lv_if_lt hx hb hd ht w1 w2) kt kf
theorem ht_if_ge {x : Int32} {off : Int} {tgt : Nat} (hd : decode M.2.1 pc = .ok (.ifCond .ge off, 3)) (ht : (pc : Int) + off = (tgt : Int)) (kt : 0 ≤ x → HT G M tgt L st σ d Q) (kf : ¬ 0 ≤ x → HT G M (pc + 3) L st σ d Q) : HT G M pc L (.int x :: st) σ d Q := ht_of2 (fun _ _ _ _ _ _ _ _ _ _ _ _ _ _ _ ls hx hb w1 w2 => lv_if_ge hx hb hd ht w1 w2) kt kf
theorem ht_if_gt {x : Int32} {off : Int} {tgt : Nat} (hd : decode M.2.1 pc = .ok (.ifCond .gt off, 3)) (ht : (pc : Int) + off = (tgt : Int)) (kt : 0 < x → HT G M tgt L st σ d Q) (kf : ¬ 0 < x → HT G M (pc + 3) L st σ d Q) : HT G M pc L (.int x :: st) σ d Q := ht_of2 (fun _ _ _ _ _ _ _ _ _ _ _ _ _ _ _ ls hx hb w1 w2 => lv_if_gt hx hb hd ht w1 w2) kt kf
theorem ht_if_le {x : Int32} {off : Int} {tgt : Nat} (hd : decode M.2.1 pc = .ok (.ifCond .le off, 3)) (ht : (pc : Int) + off = (tgt : Int)) (kt : x ≤ 0 → HT G M tgt L st σ d Q) (kf : ¬ x ≤ 0 → HT G M (pc + 3) L st σ d Q) : HT G M pc L (.int x :: st) σ d Q := ht_of2 (fun _ _ _ _ _ _ _ _ _ _ _ _ _ _ _ ls hx hb w1 w2 => lv_if_le hx hb hd ht w1 w2) kt kf
theorem ht_if_ne {x : Int32} {off : Int} {tgt : Nat} (hd : decode M.2.1 pc = .ok (.ifCond .ne off, 3)) (ht : (pc : Int) + off = (tgt : Int)) (kt : ¬ x = 0 → HT G M tgt L st σ d Q) (kf : x = 0 → HT G M (pc + 3) L st σ d Q) : HT G M pc L (.int x :: st) σ d Q := ht_of2 (P := x = 0) (fun _ _ _ _ _ _ _ _ _ _ _ _ _ _ _ ls hx hb w1 w2 => lv_if_ne hx hb hd ht w2 w1) kf kt
theorem ht_icmp_eq {x y : Int32} {off : Int} {tgt : Nat} (hd : decode M.2.1 pc = .ok (.if_icmp .eq off, 3)) (ht : (pc : Int) + off = (tgt : Int)) (kt : x = y → HT G M tgt L st σ d Q) (kf : ¬ x = y → HT G M (pc + 3) L st σ d Q) : HT G M pc L (.int y :: .int x :: st) σ d Q := ht_of2 (fun _ _ _ _ _ _ _ _ _ _ _ _ _ _ _ ls hx hb w1 w2 => lv_icmp_eq hx hb hd ht w1 w2) kt kf
theorem ht_icmp_lt {x y : Int32} {off : Int} {tgt : Nat} (hd : decode M.2.1 pc = .ok (.if_icmp .lt off, 3)) (ht : (pc : Int) + off = (tgt : Int)) (kt : x < y → HT G M tgt L st σ d Q) (kf : ¬ x < y → HT G M (pc + 3) L st σ d Q) : HT G M pc L (.int y :: .int x :: st) σ d Q := ht_of2 (fun _ _ _ _ _ _ _ _ _ _ _ _ _ _ _ ls hx hb w1 w2 => lv_icmp_lt hx hb hd ht w1 w2) kt kf
theorem ht_icmp_ge {x y : Int32} {off : Int} {tgt : Nat} (hd : decode M.2.1 pc = .ok (.if_icmp .ge off, 3)) (ht : (pc : Int) + off = (tgt : Int)) (kt : y ≤ x → HT G M tgt L st σ d Q) (kf : ¬ y ≤ x → HT G M (pc + 3) L st σ d Q) : HT G M pc L (.int y :: .int x :: st) σ d Q := ht_of2 (fun _ _ _ _ _ _ _ _ _ _ _ _ _ _ _ ls hx hb w1 w2 => lv_icmp_ge hx hb hd ht w1 w2) kt kf
theorem ht_icmp_gt {x y : Int32} {off : Int} {tgt : Nat} (hd : decode M.2.1 pc = .ok (.if_icmp .gt off, 3)) (ht : (pc : Int) + off = (tgt : Int)) (kt : y < x → HT G M tgt L st σ d Q) (kf : ¬ y < x → HT G M (pc + 3) L st σ d Q) : HT G M pc L (.int y :: .int x :: st) σ d Q := ht_of2 (fun _ _ _ _ _ _ _ _ _ _ _ _ _ _ _ ls hx hb w1 w2 => lv_icmp_gt hx hb hd ht w1 w2) kt kf
theorem ht_icmp_le {x y : Int32} {off : Int} {tgt : Nat} (hd : decode M.2.1 pc = .ok (.if_icmp .le off, 3)) (ht : (pc : Int) + off = (tgt : Int)) (kt : x ≤ y → HT G M tgt L st σ d Q) (kf : ¬ x ≤ y → HT G M (pc + 3) L st σ d Q) : HT G M pc L (.int y :: .int x :: st) σ d Q := ht_of2 (fun _ _ _ _ _ _ _ _ _ _ _ _ _ _ _ ls hx hb w1 w2 => lv_icmp_le hx hb hd ht w1 w2) kt kf
theorem ht_icmp_ne {x y : Int32} {off : Int} {tgt : Nat} (hd : decode M.2.1 pc = .ok (.if_icmp .ne off, 3)) (ht : (pc : Int) + off = (tgt : Int)) (kt : ¬ x = y → HT G M tgt L st σ d Q) (kf : x = y → HT G M (pc + 3) L st σ d Q) : HT G M pc L (.int y :: .int x :: st) σ d Q := ht_of2 (P := x = y) (fun _ _ _ _ _ _ _ _ _ _ _ _ _ _ _ ls hx hb w1 w2 => lv_icmp_ne hx hb hd ht w2 w1) kf kt
theorem ht_acmp_eq {rx ry : Option Nat} {off : Int} {tgt : Nat} (hd : decode M.2.1 pc = .ok (.if_acmp .eq off, 3)) (ht : (pc : Int) + off = (tgt : Int)) (kt : rx = ry → HT G M tgt L st σ d Q) (kf : ¬ rx = ry → HT G M (pc + 3) L st σ d Q) : HT G M pc L (va_rf ry :: va_rf rx :: st) σ d Q := ht_of2 (fun _ _ _ _ _ _ _ _ _ _ _ _ _ _ _ ls hx hb w1 w2 => lv_acmp_eq hx hb hd ht w1 w2) kt kf
theorem ht_acmp_ne {rx ry : Option Nat} {off : Int} {tgt : Nat} (hd : decode M.2.1 pc = .ok (.if_acmp .ne off, 3)) (ht : (pc : Int) + off = (tgt : Int)) (kt : ¬ rx = ry → HT G M tgt L st σ d Q) (kf : rx = ry → HT G M (pc + 3) L st σ d Q) : HT G M pc L (va_rf ry :: va_rf rx :: st) σ d Q := ht_of2 (P := rx = ry) (fun _ _ _ _ _ _ _ _ _ _ _ _ _ _ _ ls hx hb w1 w2 => lv_acmp_ne hx hb hd ht w2 w1) kf kt
theorem ht_goto {off : Int} {tgt : Nat} (hd : decode M.2.1 pc = .ok (.goto off, 3)) (ht : (pc : Int) + off = (tgt : Int)) (k : HT G M tgt L st σ d Q) : HT G M pc L st σ d Q := ht_of (fun _ _ _ _ _ _ _ _ _ _ _ _ _ _ _ ls hx hb hL w => lv_goto hx hb hd ht w) k
theorem ht_ifnonnull {x : Nat} {off : Int} {tgt : Nat} (hd : decode M.2.1 pc = .ok (.ifnonnull off, 3)) (ht : (pc : Int) + off = (tgt : Int)) (k : HT G M tgt L st σ d Q) : HT G M pc L (.ref x :: st) σ d Q := ht_of (fun _ _ _ _ _ _ _ _ _ _ _ _ _ _ _ ls hx hb hL w => lv_ifnonnull hx hb hd ht w) k
theorem ht_ifnonnullN {off : Int} (hd : decode M.2.1 pc = .ok (.ifnonnull off, 3)) (k : HT G M (pc + 3) L st σ d Q) : HT G M pc L (.null :: st) σ d Q := ht_of (fun _ _ _ _ _ _ _ _ _ _ _ _ _ _ _ ls hx hb hL w => lv_ifnonnullN hx hb hd w) k
theorem ht_ifnull {x : Nat} {off : Int} (hd : decode M.2.1 pc = .ok (.ifnull off, 3)) (k : HT G M (pc + 3) L st σ d Q) : HT G M pc L (.ref x :: st) σ d Q := ht_of (fun _ _ _ _ _ _ _ _ _ _ _ _ _ _ _ ls hx hb hL w => lv_ifnull hx hb hd w) k
theorem ht_ifnullN {off : Int} {tgt : Nat} (hd : decode M.2.1 pc = .ok (.ifnull off, 3)) (ht : (pc : Int) + off = (tgt : Int)) (k : HT G M tgt L st σ d Q) : HT G M pc L (.null :: st) σ d Q := ht_of (fun _ _ _ _ _ _ _ _ _ _ _ _ _ _ _ ls hx hb hL w => lv_ifnullN hx hb hd ht w) k
theorem ht_tableOut {dflt lo hi : Int} {offs : Array Int} {len : Nat} {x : Int32} {tgt : Nat} (hd : decode M.2.1 pc = .ok (.tableswitch dflt lo hi offs, len)) (h : x.toInt < lo ∨ hi < x.toInt) (ht : (pc : Int) + dflt = (tgt : Int)) (k : HT G M tgt L st σ d Q) : HT G M pc L (.int x :: st) σ d Q := ht_of (fun _ _ _ _ _ _ _ _ _ _ _ _ _ _ _ ls hx hb hL w => lv_tableOut hx hb hd h ht w) k
theorem ht_tableIn {dflt lo hi : Int} {offs : Array Int} {len : Nat} {x : Int32} {off : Int} {tgt : Nat} (hd : decode M.2.1 pc = .ok (.tableswitch dflt lo hi offs, len)) (h1 : ¬ x.toInt < lo) (h2 : ¬ hi < x.toInt) (ho : offs[(x.toInt - lo).toNat]? = some off) (ht : (pc : Int) + off = (tgt : Int)) (k : HT G M tgt L st σ d Q) : HT G M pc L (.int x :: st) σ d Q := ht_of (fun _ _ _ _ _ _ _ _ _ _ _ _ _ _ _ ls hx hb hL w => lv_tableIn hx hb hd h1 h2 ho ht w) k
theorem ht_ldc2 {index : Nat} {v : Int64} (hc : Cond.constantLong M.1.cls index v ∈ WS) (hd : decode M.2.1 pc = .ok (.ldc2_w index, 3)) (k : HT G M (pc + 3) L (.long v :: st) σ d Q) : HT G M pc L st σ d Q :=
  fun l p e R s m args below meth c H locs ls Z C hf hl hw hL hq hz => lv_ldc2 C.1 C.2.1 C.2.2.2.2.1 (C.2.2.2.2.2.2.2.1 _ hc) hd (k l p e R s m args below meth c H locs ls Z C hf hl hw hL hq hz)
theorem ht_ldc {index : Nat} {v : Int32} (hc : Cond.constant M.1.cls index v ∈ WS) (hd : decode M.2.1 pc = .ok (.ldc index, 2)) (k : HT G M (pc + 2) L (.int v :: st) σ d Q) : HT G M pc L st σ d Q :=
  fun l p e R s m args below meth c H locs ls Z C hf hl hw hL hq hz => lv_ldc C.1 C.2.1 C.2.2.2.2.1 (C.2.2.2.2.2.2.2.1 _ hc) hd (k l p e R s m args below meth c H locs ls Z C hf hl hw hL hq hz)
theorem ht_iret {x : Int32} {ty : FieldType} (hd : decode M.2.1 pc = .ok (.ireturn, 1)) (hr : M.2.2.2 = some ty) (hn : narrow ty (.int x) = .int x) (k : Q (some (.int x)) σ) : HT G M pc L [.int x] σ d Q :=
  fun l p e R s m args below meth c H locs ls Z C hf hl hw hL hq hz => hz (some (.int x)) σ H locs pc ls k hw hq ⟨hd, ty, hr, hn⟩
theorem ht_lret {x : Int64} (hd : decode M.2.1 pc = .ok (.lreturn, 1)) (hr : M.2.2.2 = some .long) (k : Q (some (.long x)) σ) : HT G M pc L [.long x] σ d Q :=
  fun l p e R s m args below meth c H locs ls Z C hf hl hw hL hq hz => hz (some (.long x)) σ H locs pc ls k hw hq ⟨hd, hr⟩
theorem ht_vret (hd : decode M.2.1 pc = .ok (.return_, 1)) (hr : M.2.2.2 = none) (k : Q none σ) : HT G M pc L [] σ d Q :=
  fun l p e R s m args below meth c H locs ls Z C hf hl hw hL hq hz => hz none σ H locs pc ls k hw hq ⟨hd, hr⟩
theorem ht_aret {x : Nat} {ty : FieldType} (hd : decode M.2.1 pc = .ok (.areturn, 1)) (hr : M.2.2.2 = some ty) (ht : (∃ n, ty = .object n) ∨ ∃ t, ty = .array t) (k : Q (some (.ref x)) σ) : HT G M pc L [.ref x] σ d Q :=
  fun l p e R s m args below meth c H locs ls Z C hf hl hw hL hq hz => hz (some (.ref x)) σ H locs pc ls k hw hq ⟨hd, ty, hr, ht⟩
theorem ht_aretN {ty : FieldType} (hd : decode M.2.1 pc = .ok (.areturn, 1)) (hr : M.2.2.2 = some ty) (ht : (∃ n, ty = .object n) ∨ ∃ t, ty = .array t) (k : Q (some .null) σ) : HT G M pc L [.null] σ d Q :=
  fun l p e R s m args below meth c H locs ls Z C hf hl hw hL hq hz => hz (some .null) σ H locs pc ls k hw hq ⟨hd, ty, hr, ht⟩
theorem ht_mono {Q' : Option Value → Hp → Prop} (h : HT G M pc L st σ d Q') (hQ : ∀ v σ', Q' v σ' → Q v σ') : HT G M pc L st σ d Q :=
  fun l p e R s m args below meth c H locs ls Z C hf hl hw hL hq hz => h l p e R s m args below meth c H locs ls Z C hf hl hw hL hq (fun v σ' H' locs' pc' ls' q => hz v σ' H' locs' pc' ls' (hQ v σ' q))
theorem ht_more {d' : Nat} (h : HT G M pc L st σ d' Q) (hd : d' ≤ d) : HT G M pc L st σ d Q :=
  fun l p e R s m args below meth c H locs ls Z C hf hl hw hL hq hz => h l p e R s m args below meth c H locs ls Z C (Nat.le_trans hd hf) (Nat.le_trans (Nat.mul_le_mul_left 64 hd) hl) hw hL hq hz
end Rules
end
section
/-! ===== the heap's rules ===== -/
theorem clW0 : ∀ w ∈ u_ws RX0 TX0 1, w ∈ WS := by decide +kernel
theorem clW1 : ∀ w ∈ u_ws RX1 TX1 2, w ∈ WS := by decide +kernel
theorem clW2 : ∀ w ∈ u_ws RX2 TX2 17, w ∈ WS := by decide +kernel
theorem clW3 : ∀ w ∈ u_ws RX3 TX3 5, w ∈ WS := by decide +kernel
theorem clW4 : ∀ w ∈ u_ws RX4 TX4 8, w ∈ WS := by decide +kernel
theorem clW5 : ∀ w ∈ u_ws RX5 TX5 11, w ∈ WS := by decide +kernel
theorem clW6 : ∀ w ∈ u_ws RX6 TX6 2, w ∈ WS := by decide +kernel
theorem clW7 : ∀ w ∈ u_ws RX7 TX7 9, w ∈ WS := by decide +kernel
theorem clW8 : ∀ w ∈ u_ws RX9 TX9 9, w ∈ WS := by decide +kernel
theorem clW9 : ∀ w ∈ u_ws RX10 TX10 57, w ∈ WS := by decide +kernel
theorem clW {ci : Nat} (h : ci < 10) : ∀ w ∈ u_ws (cT ci).1 (cT ci).2.1 (cT ci).2.2, w ∈ WS := by
  match ci, h with
  | 0, _ => exact clW0
  | 1, _ => exact clW1
  | 2, _ => exact clW2
  | 3, _ => exact clW3
  | 4, _ => exact clW4
  | 5, _ => exact clW5
  | 6, _ => exact clW6
  | 7, _ => exact clW7
  | 8, _ => exact clW8
  | 9, _ => exact clW9
theorem tyC_ok {ci : Nat} (h : ci < 10) : ∀ k, k < (cT ci).2.2 → parseFieldDescriptor ((cT ci).2.1 k).2.2.1 = some (tyC ci k) := by
  match ci, h with
  | 0, _ => exact tyX0_ok
  | 1, _ => exact tyX1_ok
  | 2, _ => exact tyX2_ok
  | 3, _ => exact tyX3_ok
  | 4, _ => exact tyX4_ok
  | 5, _ => exact tyX5_ok
  | 6, _ => exact tyX6_ok
  | 7, _ => exact tyX7_ok
  | 8, _ => exact tyX9_ok
  | 9, _ => exact tyX10_ok
theorem nmC {ci : Nat} (h : ci < 10) : ∀ a, a < (cT ci).2.2 → ∀ b, b < (cT ci).2.2 → a ≠ b → ((cT ci).2.1 a).2.1 ≠ ((cT ci).2.1 b).2.1 := by
  match ci, h with
  | 0, _ => exact nmX0
  | 1, _ => exact nmX1
  | 2, _ => exact nmX2
  | 3, _ => exact nmX3
  | 4, _ => exact nmX4
  | 5, _ => exact nmX5
  | 6, _ => exact nmX6
  | 7, _ => exact nmX7
  | 8, _ => exact nmX9
  | 9, _ => exact nmX10
/-- the pool's entry idx of class own is field k of class number ci -/
def FL (own : String) (idx ci k : Nat) : Prop := Cond.fieldLink own idx ((cT ci).2.1 k).1 ((cT ci).2.1 k).2.1 ((cT ci).2.1 k).2.2.1 ∈ WS
section WdRows
variable {G : GG} {σ σ' : Hp} {H H' : Heap} {a b k ci : Nat}
theorem Wd.obj (hw : Wd G σ H) (hK : zK σ a = ci) (hci : ci < 10) : t_OB a ((gD G).1 ci) (cT ci).2.2 ((gD G).2 ci) H (fun j => fv σ a j (fT ci j)) := by
  have ha := hw.2.2.2.2.2.2.2 a
  unfold at_ at ha
  rw [if_pos (by rw [hK]; exact hci), hK] at ha
  exact ha
theorem Wd.arr (hw : Wd G σ H) (hK : zK σ a = k) (h1 : 20 ≤ k) (h2 : k < 26) : H[a]? = some (arrV (gA G k) (zN σ a) (fun j => fv σ a j (eT k))) := by
  have ha := hw.2.2.2.2.2.2.2 a
  unfold at_ at ha
  rw [if_neg (by rw [hK]; omega), if_pos (by rw [hK]; exact ⟨h1, h2⟩), hK] at ha
  exact ha
theorem Wd.ge (hw : Wd G σ H) (hK : zK σ a = k) (h2 : k < 26) : gB G ≤ a := (hw.2.2.2.2.2.2.1 a (by rw [hK]; exact h2)).1
theorem Wd.lt (hw : Wd G σ H) (hK : zK σ a = k) (h2 : k < 26) : a < zX σ := (hw.2.2.2.2.2.2.1 a (by rw [hK]; exact h2)).2
theorem at_congr (hk : zK σ' b = zK σ b) (hn : zN σ' b = zN σ b) (hf : ∀ j c, fv σ' b j c = fv σ b j c) (hh : H'[b]? = H[b]?) (h : at_ G σ b H) : at_ G σ' b H' := by
  unfold at_ at h ⊢
  have e1 : (fun j => fv σ' b j (fT (zK σ b) j)) = fun j => fv σ b j (fT (zK σ b) j) := funext fun j => hf j _
  have e2 : (fun j => fv σ' b j (eT (zK σ b))) = fun j => fv σ b j (eT (zK σ b)) := funext fun j => hf j _
  rw [hk, hn, e1, e2]
  by_cases c1 : zK σ b < 10
  · rw [if_pos c1] at h ⊢
    exact h.kept hh
  · rw [if_neg c1] at h ⊢
    by_cases c2 : 20 ≤ zK σ b ∧ zK σ b < 26
    · rw [if_pos c2] at h ⊢
      rw [hh]
      exact h
    · rw [if_neg c2]
      trivial
/-- one cell is written -/
theorem wd_set (hw : Wd G σ H) (hge : gB G ≤ a) (hz : H'.size = H.size) (ho : ∀ q, q ≠ a → H'[q]? = H[q]?) {cell cell' : Cell} (hc : H[a]? = some cell) (hc' : H'[a]? = some cell') (hs : cell'.slots.size = cell.slots.size)
    (hK : zK σ' = zK σ) (hN : zN σ' = zN σ) (hX : zX σ' = zX σ) (hS : zS σ' = zS σ) (hf : ∀ b, b ≠ a → ∀ j c, fv σ' b j c = fv σ b j c) (hat : at_ G σ' a H') : Wd G σ' H' := by
  obtain ⟨w1, w2, w3, w4, w5, w6, w7, w8⟩ := hw
  refine ⟨by rw [hz, hX]; exact w1, by rw [hX]; exact w2, by rw [hX]; exact w3, by rw [hS]; exact w4, ?_, fun q hq => ?_, fun b hb => ?_, fun b => ?_⟩
  · rw [hS, ← w5]
    refine nS_same hz fun q x hx => ?_
    by_cases e : q = a
    · subst e
      rw [hc] at hx
      cases hx
      exact ⟨cell', hc', hs⟩
    · exact ⟨x, by rw [ho q e]; exact hx, rfl⟩
  · rw [ho q (by omega)]
    exact w6 q hq
  · rw [hX]
    exact w7 b (by rw [← hK]; exact hb)
  · by_cases e : b = a
    · rw [e]
      exact hat
    · exact at_congr (by rw [hK]) (by rw [hN]) (hf b e) (ho b e) (w8 b)
/-- a cell is made -/
theorem wd_new (hw : Wd G σ H) {k len sl : Nat} {cell : Cell} (hz : H'.size = H.size + 1) (ho : ∀ q, q < H.size → H'[q]? = H[q]?) (hc : H'[H.size]? = some cell) (hs : cell.slots.size = sl) (h1 : zX σ + 1 ≤ gC G) (h2 : zS σ + sl ≤ gS G) (hat : at_ G (nw σ k len sl) (zX σ) H') : Wd G (nw σ k len sl) H' := by
  obtain ⟨w1, w2, w3, w4, w5, w6, w7, w8⟩ := hw
  refine ⟨by rw [hz, w1]; rfl, Nat.le_succ_of_le w2, h1, h2, ?_, fun q hq => ?_, fun b hb => ?_, fun b => ?_⟩
  · rw [nS_push (by rw [w1]; exact w2) hz ho hc, hs, w5]
    rfl
  · rw [ho q (by omega)]
    exact w6 q hq
  · by_cases e : b = zX σ
    · rw [e]
      exact ⟨w2, Nat.lt_succ_self _⟩
    · have hk : zK (nw σ k len sl) b = zK σ b := by simp [zK_nw, zN_nw, va_up, e]
      rw [hk] at hb
      have := w7 b hb
      exact ⟨this.1, Nat.lt_succ_of_lt this.2⟩
  · by_cases e : b = zX σ
    · rw [e]
      exact hat
    · have hk : zK (nw σ k len sl) b = zK σ b := by simp [zK_nw, zN_nw, va_up, e]
      have hn : zN (nw σ k len sl) b = zN σ b := by simp [zK_nw, zN_nw, va_up, e]
      have hf : ∀ j c, fv (nw σ k len sl) b j c = fv σ b j c := by
        intro j c
        unfold fv
        simp [zI_nw, zJ_nw, zQ_nw, va_up, e]
      by_cases hlt : b < H.size
      · exact at_congr hk hn hf (ho b hlt) (w8 b)
      · have hno : ¬ zK σ b < 26 := fun q => by
          have := (w7 b q).2
          omega
        unfold at_
        rw [hk, if_neg (by omega), if_neg (by omega)]
        trivial
/-- what a write of place k of cell a is -/
def Ch (σ σ' : Hp) (a k c : Nat) (v : Value) : Prop := zK σ' = zK σ ∧ zN σ' = zN σ ∧ zX σ' = zX σ ∧ zS σ' = zS σ ∧ (∀ b j c', ¬ (b = a ∧ j = k) → fv σ' b j c' = fv σ b j c') ∧ fv σ' a k c = v
theorem ch_I (σ : Hp) (a k : Nat) (x : Int32) : Ch σ (wI σ a k x) a k 0 (.int x) := by
  refine ⟨rfl, rfl, rfl, rfl, fun b j c' h => ?_, ?_⟩
  · unfold fv
    simp only [zI_wI, zJ_wI, zQ_wI, up2, if_neg h]
  · show Value.int (up2 (zI σ) a k x a k) = _
    rw [up2_s]
theorem ch_J (σ : Hp) (a k : Nat) (x : Int64) : Ch σ (wJ σ a k x) a k 1 (.long x) := by
  refine ⟨rfl, rfl, rfl, rfl, fun b j c' h => ?_, ?_⟩
  · unfold fv
    simp only [zI_wJ, zJ_wJ, zQ_wJ, up2, if_neg h]
  · show Value.long (up2 (zJ σ) a k x a k) = _
    rw [up2_s]
theorem ch_Q (σ : Hp) (a k : Nat) (x : Option Nat) : Ch σ (wQ σ a k x) a k 2 (va_rf x) := by
  refine ⟨rfl, rfl, rfl, rfl, fun b j c' h => ?_, ?_⟩
  · unfold fv
    simp only [zI_wQ, zJ_wQ, zQ_wQ, up2, if_neg h]
  · show va_rf (up2 (zQ σ) a k x a k) = _
    rw [up2_s]
theorem size_setSlot (cell : Cell) (i : Nat) (v : Value) : (cell.setSlot i v).slots.size = cell.slots.size := by simp [Cell.setSlot]
theorem wd_put (hw : Wd G σ H) (hK : zK σ a = ci) (hci : ci < 10) (hk : k < (cT ci).2.2) (hap : ∀ x y, x < (cT ci).2.2 → y < (cT ci).2.2 → x ≠ y → (gD G).2 ci x ≠ (gD G).2 ci y) {cell : Cell} {v : Value} (q1 : H[a]? = some cell) (q2 : cell.cls = (gD G).1 ci) (q3 : cell.vm = .none) (q4 : ∀ j, j < (cT ci).2.2 → cell.slots[(gD G).2 ci j]? = some (fv σ a j (fT ci j)))
    (e1 : H'[a]? = some (cell.setSlot ((gD G).2 ci k) v)) (e2 : H'.size = H.size) (e3 : ∀ q, q ≠ a → H'[q]? = H[q]?) (hc : Ch σ σ' a k (fT ci k) v) : Wd G σ' H' := by
  obtain ⟨c1, c2, c3, c4, c5, c6⟩ := hc
  refine wd_set hw (hw.ge hK (by omega)) e2 e3 q1 e1 (size_setSlot _ _ _) c1 c2 c3 c4 (fun b hb j c => c5 b j c (fun q => hb q.1)) ?_
  unfold at_
  rw [c1, hK, if_pos hci]
  refine ⟨_, e1, q2, q3, fun j hj => ?_⟩
  rw [t_set q4 hap hk v j hj]
  show some (if j = k then v else fv σ a j (fT ci j)) = some (fv σ' a j (fT ci j))
  by_cases e : j = k
  · rw [if_pos e, e, c6]
  · rw [if_neg e, c5 a j _ (fun q => e q.2)]
theorem wd_ast (hw : Wd G σ H) (hK : zK σ a = k) (h1 : 20 ≤ k) (h2 : k < 26) {i : Nat} {v : Value} (e1 : H'[a]? = some ((arrV (gA G k) (zN σ a) (fun j => fv σ a j (eT k))).setSlot i v)) (e2 : H'.size = H.size) (e3 : ∀ q, q ≠ a → H'[q]? = H[q]?) (hc : Ch σ σ' a i (eT k) v) : Wd G σ' H' := by
  obtain ⟨c1, c2, c3, c4, c5, c6⟩ := hc
  refine wd_set hw (hw.ge hK h2) e2 e3 (hw.arr hK h1 h2) e1 (size_setSlot _ _ _) c1 c2 c3 c4 (fun b hb j c => c5 b j c (fun q => hb q.1)) ?_
  unfold at_
  rw [c1, c2, hK, if_neg (by omega), if_pos ⟨h1, h2⟩, e1, arrV_store]
  congr 2
  funext j
  unfold updV
  by_cases e : j = i
  · rw [if_pos e, e, c6]
  · rw [if_neg e, c5 a j _ (fun q => e q.2)]
end WdRows
section HeapRules
variable {G : GG} {M : MI} {pc : Nat} {L : List (Option Value)} {st : List Value} {σ : Hp} {d : Nat} {Q : Option Value → Hp → Prop}
theorem ht_get {a ci k idx : Nat} (hci : ci < 10) (hk : k < (cT ci).2.2) (hlink : FL M.1.cls idx ci k) (hd : decode M.2.1 pc = .ok (.getfield idx, 3)) (hK : zK σ a = ci) (kk : HT G M (pc + 3) L (fv σ a k (fT ci k) :: st) σ d Q) : HT G M pc L (.ref a :: st) σ d Q := by
  intro l p e R s m args below meth c H locs ls Z C hf hl hw hL hq hz
  have kk' := kk l p e R s m args below meth c H locs ls Z C hf hl hw hL hq hz
  obtain ⟨hx, hb, hr, hml, hown, hlk, hnm, hts, hok, -⟩ := C
  obtain ⟨cell, q1, q2, q3, q4⟩ := hw.obj hK hci
  obtain ⟨hS, hfc, kC, hkC, hkind⟩ := hok.1.1 ci _ (cT_some hci)
  obtain ⟨cf, kf, fi, f, hi, hsl⟩ := hS k hk
  refine W.getf hx hb hown (hts _ hlink) hi (u_facts hfc hkC (u_lays hts (clW hci) hk) hi).1 q1 (by rw [q3]; exact fun h => by cases h) (v := fv σ a k (fT ci k)) ?_ rfl rfl hd kk'
  rw [hsl, q4 k hk]
theorem ht_getI {a ci k idx : Nat} (hci : ci < 10) (hk : k < (cT ci).2.2) (hlink : FL M.1.cls idx ci k) (hd : decode M.2.1 pc = .ok (.getfield idx, 3)) (hK : zK σ a = ci) (ht : fT ci k = 0) (kk : HT G M (pc + 3) L (.int (zI σ a k) :: st) σ d Q) : HT G M pc L (.ref a :: st) σ d Q :=
  ht_get hci hk hlink hd hK (by rw [ht]; exact kk)
theorem ht_getJ {a ci k idx : Nat} (hci : ci < 10) (hk : k < (cT ci).2.2) (hlink : FL M.1.cls idx ci k) (hd : decode M.2.1 pc = .ok (.getfield idx, 3)) (hK : zK σ a = ci) (ht : fT ci k = 1) (kk : HT G M (pc + 3) L (.long (zJ σ a k) :: st) σ d Q) : HT G M pc L (.ref a :: st) σ d Q :=
  ht_get hci hk hlink hd hK (by rw [ht]; exact kk)
theorem ht_getQ {a ci k idx : Nat} (hci : ci < 10) (hk : k < (cT ci).2.2) (hlink : FL M.1.cls idx ci k) (hd : decode M.2.1 pc = .ok (.getfield idx, 3)) (hK : zK σ a = ci) (ht : fT ci k = 2) {x : Option Nat} (hv : zQ σ a k = x) (kk : HT G M (pc + 3) L (va_rf x :: st) σ d Q) : HT G M pc L (.ref a :: st) σ d Q :=
  ht_get hci hk hlink hd hK (by rw [ht]; subst hv; exact kk)
theorem ht_put {a ci k idx : Nat} {v : Value} {σ' : Hp} (hci : ci < 10) (hk : k < (cT ci).2.2) (hlink : FL M.1.cls idx ci k) (hd : decode M.2.1 pc = .ok (.putfield idx, 3)) (hK : zK σ a = ci) (hfin : ((cT ci).2.1 k).2.2.2 = false ∨ (M.1.name = "<init>" ∧ ((cT ci).2.1 k).1 = M.1.cls)) (hn : narrow (tyC ci k) v = v) (hv : fits (tyC ci k) v = true) (hc : Ch σ σ' a k (fT ci k) v) (kk : HT G M (pc + 3) L st σ' d Q) : HT G M pc L (v :: .ref a :: st) σ d Q := by
  intro l p e R s m args below meth c H locs ls Z C hf hl hw hL hq hz
  obtain ⟨hx, hb, hr, hml, hown, hlk, hnm, hts, hok, -⟩ := id C
  obtain ⟨cell, q1, q2, q3, q4⟩ := hw.obj hK hci
  obtain ⟨hS, hfc, kC, hkC, hkind⟩ := hok.1.1 ci _ (cT_some hci)
  obtain ⟨cf, kf, fi, f, hi, hsl⟩ := hS k hk
  have hlays := u_lays hts (clW hci) hk
  have hst := (u_facts hfc hkC hlays hi).1
  have hap := va_apart (own := M.1.cls) hts (clW hci) (tyC ci) (tyC_ok hci) (nmC hci) hok.1 (cT_some hci)
  have hpd := tyC_ok hci k hk
  have hlt : f.slot < cell.slots.size := by rw [hsl]; exact k2_hasslot (q4 k hk)
  have fin : ∀ H' : Heap, H'[a]? = some (cell.setSlot f.slot v) → H'.size = H.size → (∀ q, q ≠ a → H'[q]? = H[q]?) → W p l e R s m args below meth c H' (locs ++ [⟨a, f.slot⟩]) (H.size - s.heap.size) (nS H s.heap.size) Z (F0 m (pc + 3) ls st) := by
    intro H' e1 e2 e3
    rw [hsl] at e1
    refine w_tight (kk l p e R s m args below meth c H' _ ls Z C hf hl (wd_put hw hK hci hk hap q1 q2 q3 q4 e1 e2 e3 hc) hL (fun q h => ?_) hz)
    rcases List.mem_append.mp h with h | h
    · exact hq q h
    · rw [List.mem_singleton.mp h]
      exact hw.ge hK (by omega)
  by_cases hfi : ((cT ci).2.1 k).2.2.2 = true
  · have hF : M.1.name = "<init>" ∧ ((cT ci).2.1 k).1 = M.1.cls := by
      rcases hfin with h | h
      · rw [hfi] at h
        cases h
      · exact h
    have hlay := hts _ (clW hci _ (u_in_lay hk))
    unfold u_lay at hlay
    rw [if_pos hfi] at hlay
    have hcf : m.cls = cf := by
      obtain ⟨_, _, c', _, _, _, -, -, hf', -, -, -, hown2, -⟩ := Cond.laysFinal_spec hlay
      have e1 : c' = cf := by have := hi.symm.trans hf'; simp at this; exact this.1.symm
      rw [hF.2] at hown2
      rw [← e1]; exact Option.some.inj (hown.symm.trans hown2)
    exact W.putFinK hx hb hown (hts _ hlink) hi hst hcf (by rw [hnm]; exact hF.1) (by rw [q2]; exact u_fits hfc hkC hkind hlays hi hpd hn hv) q1 q3 hlt rfl rfl hd fin
  · have hlay := hts _ (clW hci _ (u_in_lay hk))
    unfold u_lay at hlay
    rw [if_neg hfi] at hlay
    exact W.putK hx hb (f := f) ⟨hown, hts _ hlink, ⟨_, _, _, hi⟩, hst⟩ (by rw [q2]; exact u_store hfc hkC hkind hlay hi hpd hn hv) q1 q3 hlt rfl rfl hd fin
theorem ht_putI {a ci k idx : Nat} {x : Int32} (hci : ci < 10) (hk : k < (cT ci).2.2) (hlink : FL M.1.cls idx ci k) (hd : decode M.2.1 pc = .ok (.putfield idx, 3)) (hK : zK σ a = ci) (hfin : ((cT ci).2.1 k).2.2.2 = false ∨ (M.1.name = "<init>" ∧ ((cT ci).2.1 k).1 = M.1.cls)) (ht : fT ci k = 0) (hn : narrow (tyC ci k) (.int x) = .int x) (hv : fits (tyC ci k) (.int x) = true) (kk : HT G M (pc + 3) L st (wI σ a k x) d Q) : HT G M pc L (.int x :: .ref a :: st) σ d Q :=
  ht_put hci hk hlink hd hK hfin hn hv (by rw [ht]; exact ch_I σ a k x) kk
theorem ht_putJ {a ci k idx : Nat} {x : Int64} (hci : ci < 10) (hk : k < (cT ci).2.2) (hlink : FL M.1.cls idx ci k) (hd : decode M.2.1 pc = .ok (.putfield idx, 3)) (hK : zK σ a = ci) (hfin : ((cT ci).2.1 k).2.2.2 = false ∨ (M.1.name = "<init>" ∧ ((cT ci).2.1 k).1 = M.1.cls)) (ht : fT ci k = 1) (hn : narrow (tyC ci k) (.long x) = .long x) (hv : fits (tyC ci k) (.long x) = true) (kk : HT G M (pc + 3) L st (wJ σ a k x) d Q) : HT G M pc L (.long x :: .ref a :: st) σ d Q :=
  ht_put hci hk hlink hd hK hfin hn hv (by rw [ht]; exact ch_J σ a k x) kk
theorem ht_putQ {a ci k idx : Nat} (x : Option Nat) (hci : ci < 10) (hk : k < (cT ci).2.2) (hlink : FL M.1.cls idx ci k) (hd : decode M.2.1 pc = .ok (.putfield idx, 3)) (hK : zK σ a = ci) (hfin : ((cT ci).2.1 k).2.2.2 = false ∨ (M.1.name = "<init>" ∧ ((cT ci).2.1 k).1 = M.1.cls)) (ht : fT ci k = 2) (hn : narrow (tyC ci k) (va_rf x) = va_rf x) (hv : fits (tyC ci k) (va_rf x) = true) (kk : HT G M (pc + 3) L st (wQ σ a k x) d Q) : HT G M pc L (va_rf x :: .ref a :: st) σ d Q :=
  ht_put hci hk hlink hd hK hfin hn hv (by rw [ht]; exact ch_Q σ a k x) kk
end HeapRules
end
section
/-! ===== arrays, new ===== -/
def dfv (c : Nat) : Value := match c with
  | 0 => .int 0
  | 1 => .long 0
  | _ => .null
theorem dfC {ci : Nat} (h : ci < 10) : ∀ j, j < (cT ci).2.2 → defaultValue (tyC ci j) = dfv (fT ci j) := by
  match ci, h with
  | 0, _ => decide +kernel
  | 1, _ => decide +kernel
  | 2, _ => decide +kernel
  | 3, _ => decide +kernel
  | 4, _ => decide +kernel
  | 5, _ => decide +kernel
  | 6, _ => decide +kernel
  | 7, _ => decide +kernel
  | 8, _ => decide +kernel
  | 9, _ => decide +kernel
section ArrRules
variable {G : GG} {M : MI} {pc : Nat} {L : List (Option Value)} {st : List Value} {σ : Hp} {d : Nat} {Q : Option Value → Hp → Prop}
theorem ok_arr {s : State} (h : Ok G s) {k : Nat} (h1 : 20 ≤ k) (h2 : k < 26) : ArrOfT s (gA G k) (aT k) ∧ va_RA s (gA G k) (aT k) := h.1.2 (k - 20) _ (tysG_at G ⟨h1, h2⟩)
theorem ht_iald {a : Nat} {i : Int32} (hd : decode M.2.1 pc = .ok (.iaload, 1)) (hK : zK σ a = 20) (hin : vp_in i (zN σ a)) (kk : HT G M (pc + 1) L (.int (zI σ a i.toNatClampNeg) :: st) σ d Q) : HT G M pc L (.int i :: .ref a :: st) σ d Q := by
  intro l p e R s m args below meth c H locs ls Z C hf hl hw hL hq hz
  have hlt : i.toNatClampNeg < zN σ a := Nat.not_le.mp fun q => hin (Or.inr q)
  have hok := ok_arr (k := 20) C.2.2.2.2.2.2.2.2.1 (by omega) (by omega)
  exact W.iald (v := .int (zI σ a i.toNatClampNeg)) C.1 C.2.1 (hw.arr hK (by omega) (by omega)) (hok.1 _ _) (fun q => by cases q) (by rw [arrV_size]; exact hin) (by rw [arrV_read _ _ hlt]; rfl) rfl rfl hd (kk l p e R s m args below meth c H locs ls Z C hf hl hw hL hq hz)
theorem ht_lald {a : Nat} {i : Int32} (hd : decode M.2.1 pc = .ok (.laload, 1)) (hK : zK σ a = 21) (hin : vp_in i (zN σ a)) (kk : HT G M (pc + 1) L (.long (zJ σ a i.toNatClampNeg) :: st) σ d Q) : HT G M pc L (.int i :: .ref a :: st) σ d Q := by
  intro l p e R s m args below meth c H locs ls Z C hf hl hw hL hq hz
  have hlt : i.toNatClampNeg < zN σ a := Nat.not_le.mp fun q => hin (Or.inr q)
  have hok := ok_arr (k := 21) C.2.2.2.2.2.2.2.2.1 (by omega) (by omega)
  exact W.lald (v := .long (zJ σ a i.toNatClampNeg)) C.1 C.2.1 (hw.arr hK (by omega) (by omega)) (hok.1 _ _) (fun q => by cases q) (by rw [arrV_size]; exact hin) (by rw [arrV_read _ _ hlt]; rfl) rfl rfl hd (kk l p e R s m args below meth c H locs ls Z C hf hl hw hL hq hz)
theorem ht_bald {a : Nat} {i : Int32} (hd : decode M.2.1 pc = .ok (.baload, 1)) (hK : zK σ a = 22) (hin : vp_in i (zN σ a)) (kk : HT G M (pc + 1) L (.int (zI σ a i.toNatClampNeg) :: st) σ d Q) : HT G M pc L (.int i :: .ref a :: st) σ d Q := by
  intro l p e R s m args below meth c H locs ls Z C hf hl hw hL hq hz
  have hlt : i.toNatClampNeg < zN σ a := Nat.not_le.mp fun q => hin (Or.inr q)
  have hok := ok_arr (k := 22) C.2.2.2.2.2.2.2.2.1 (by omega) (by omega)
  exact W.bald (v := .int (zI σ a i.toNatClampNeg)) C.1 C.2.1 (hw.arr hK (by omega) (by omega)) (hok.1 _ _) (fun q => by cases q) (by rw [arrV_size]; exact hin) (by rw [arrV_read _ _ hlt]; rfl) rfl rfl hd (kk l p e R s m args below meth c H locs ls Z C hf hl hw hL hq hz)
theorem ht_zald {a : Nat} {i : Int32} (hd : decode M.2.1 pc = .ok (.baload, 1)) (hK : zK σ a = 23) (hin : vp_in i (zN σ a)) (kk : HT G M (pc + 1) L (.int (zI σ a i.toNatClampNeg) :: st) σ d Q) : HT G M pc L (.int i :: .ref a :: st) σ d Q := by
  intro l p e R s m args below meth c H locs ls Z C hf hl hw hL hq hz
  have hlt : i.toNatClampNeg < zN σ a := Nat.not_le.mp fun q => hin (Or.inr q)
  have hok := ok_arr (k := 23) C.2.2.2.2.2.2.2.2.1 (by omega) (by omega)
  exact W.zald (v := .int (zI σ a i.toNatClampNeg)) C.1 C.2.1 (hw.arr hK (by omega) (by omega)) (hok.1 _ _) (fun q => by cases q) (by rw [arrV_size]; exact hin) (by rw [arrV_read _ _ hlt]; rfl) rfl rfl hd (kk l p e R s m args below meth c H locs ls Z C hf hl hw hL hq hz)
theorem ht_aald {a k : Nat} {i : Int32} (hk : k = 24 ∨ k = 25) (hd : decode M.2.1 pc = .ok (.aaload, 1)) (hK : zK σ a = k) (hin : vp_in i (zN σ a)) {x : Option Nat} (hv : zQ σ a i.toNatClampNeg = x) (kk : HT G M (pc + 1) L (va_rf x :: st) σ d Q) : HT G M pc L (.int i :: .ref a :: st) σ d Q := by
  subst hv
  intro l p e R s m args below meth c H locs ls Z C hf hl hw hL hq hz
  have hlt : i.toNatClampNeg < zN σ a := Nat.not_le.mp fun q => hin (Or.inr q)
  have hok := ok_arr (k := k) C.2.2.2.2.2.2.2.2.1 (by omega) (by omega)
  refine W.aald (ty := aT k) (v := va_rf (zQ σ a i.toNatClampNeg)) C.1 C.2.1 (hw.arr hK (by omega) (by omega)) (hok.1 _ _) ?_ (fun q => by cases q) (by rw [arrV_size]; exact hin) ?_ rfl rfl hd (kk l p e R s m args below meth c H locs ls Z C hf hl hw hL hq hz)
  · rcases hk with rfl | rfl <;> rfl
  · rw [arrV_read _ _ hlt]
    rcases hk with rfl | rfl <;> rfl
theorem loc1 {locs : List Loc} {a i : Nat} (hq : ∀ q ∈ locs, gB G ≤ q.base) (ha : gB G ≤ a) : ∀ q ∈ locs ++ [(⟨a, i⟩ : Loc)], gB G ≤ q.base := by
  intro q h
  rcases List.mem_append.mp h with h | h
  · exact hq q h
  · rw [List.mem_singleton.mp h]
    exact ha
theorem ht_iast {a : Nat} {i x : Int32} (hd : decode M.2.1 pc = .ok (.iastore, 1)) (hK : zK σ a = 20) (hin : vp_in i (zN σ a)) (kk : HT G M (pc + 1) L st (wI σ a i.toNatClampNeg x) d Q) : HT G M pc L (.int x :: .int i :: .ref a :: st) σ d Q := by
  intro l p e R s m args below meth c H locs ls Z C hf hl hw hL hq hz
  have hok := ok_arr (k := 20) C.2.2.2.2.2.2.2.2.1 (by omega) (by omega)
  refine W.iast C.1 C.2.1 (hw.arr hK (by omega) (by omega)) (hok.1 _ _) (fun q => by cases q) (by rw [arrV_size]; exact hin) rfl rfl hd fun H' e1 e2 e3 => ?_
  exact w_tight (kk l p e R s m args below meth c H' _ ls Z C hf hl (wd_ast hw hK (by omega) (by omega) e1 e2 e3 (ch_I σ a _ x)) hL (loc1 hq (hw.ge hK (by omega))) hz)
theorem ht_last {a : Nat} {i : Int32} {x : Int64} (hd : decode M.2.1 pc = .ok (.lastore, 1)) (hK : zK σ a = 21) (hin : vp_in i (zN σ a)) (kk : HT G M (pc + 1) L st (wJ σ a i.toNatClampNeg x) d Q) : HT G M pc L (.long x :: .int i :: .ref a :: st) σ d Q := by
  intro l p e R s m args below meth c H locs ls Z C hf hl hw hL hq hz
  have hok := ok_arr (k := 21) C.2.2.2.2.2.2.2.2.1 (by omega) (by omega)
  refine W.last C.1 C.2.1 (hw.arr hK (by omega) (by omega)) (hok.1 _ _) (fun q => by cases q) (by rw [arrV_size]; exact hin) rfl rfl hd fun H' e1 e2 e3 => ?_
  exact w_tight (kk l p e R s m args below meth c H' _ ls Z C hf hl (wd_ast hw hK (by omega) (by omega) e1 e2 e3 (ch_J σ a _ x)) hL (loc1 hq (hw.ge hK (by omega))) hz)
theorem ht_bast {a : Nat} {i x y : Int32} (hd : decode M.2.1 pc = .ok (.bastore, 1)) (hK : zK σ a = 22) (hin : vp_in i (zN σ a)) (hn : narrow .byte (.int x) = .int y) (kk : HT G M (pc + 1) L st (wI σ a i.toNatClampNeg y) d Q) : HT G M pc L (.int x :: .int i :: .ref a :: st) σ d Q := by
  intro l p e R s m args below meth c H locs ls Z C hf hl hw hL hq hz
  have hok := ok_arr (k := 22) C.2.2.2.2.2.2.2.2.1 (by omega) (by omega)
  refine W.bast C.1 C.2.1 (hw.arr hK (by omega) (by omega)) (hok.1 _ _) (fun q => by cases q) (by rw [arrV_size]; exact hin) rfl rfl hd fun H' e1 e2 e3 => ?_
  rw [hn] at e1
  exact w_tight (kk l p e R s m args below meth c H' _ ls Z C hf hl (wd_ast hw hK (by omega) (by omega) e1 e2 e3 (ch_I σ a _ y)) hL (loc1 hq (hw.ge hK (by omega))) hz)
theorem ht_zast {a : Nat} {i x y : Int32} (hd : decode M.2.1 pc = .ok (.bastore, 1)) (hK : zK σ a = 23) (hin : vp_in i (zN σ a)) (hn : narrow .boolean (.int x) = .int y) (kk : HT G M (pc + 1) L st (wI σ a i.toNatClampNeg y) d Q) : HT G M pc L (.int x :: .int i :: .ref a :: st) σ d Q := by
  intro l p e R s m args below meth c H locs ls Z C hf hl hw hL hq hz
  have hok := ok_arr (k := 23) C.2.2.2.2.2.2.2.2.1 (by omega) (by omega)
  refine W.zast C.1 C.2.1 (hw.arr hK (by omega) (by omega)) (hok.1 _ _) (fun q => by cases q) (by rw [arrV_size]; exact hin) rfl rfl hd fun H' e1 e2 e3 => ?_
  rw [hn] at e1
  exact w_tight (kk l p e R s m args below meth c H' _ ls Z C hf hl (wd_ast hw hK (by omega) (by omega) e1 e2 e3 (ch_I σ a _ y)) hL (loc1 hq (hw.ge hK (by omega))) hz)
theorem ht_alen {a k : Nat} (h1 : 20 ≤ k) (h2 : k < 26) (hd : decode M.2.1 pc = .ok (.arraylength, 1)) (hK : zK σ a = k) (kk : HT G M (pc + 1) L (.int (Int32.ofNat (zN σ a)) :: st) σ d Q) : HT G M pc L (.ref a :: st) σ d Q := by
  intro l p e R s m args below meth c H locs ls Z C hf hl hw hL hq hz
  have hok := ok_arr (k := k) C.2.2.2.2.2.2.2.2.1 h1 h2
  exact W.alen (n := Int32.ofNat (zN σ a)) C.1 C.2.1 (hw.arr hK h1 h2) (hok.1 _ _) (by rw [arrV_size] <;> rfl) rfl rfl hd (kk l p e R s m args below meth c H locs ls Z C hf hl hw hL hq hz)
/-- what room is left, at a state of the walk -/
theorem cx_room {p : Program} {l : Launch} {e : Env} {R : Room} {s : State} {m : MethodId} {args : Array Value} {below : List Frame} {meth : Method} {c : Code} {T : State} {locs : List Loc} {cells slots n : Nat} (C : Cx G M p R s m args meth c) (X : Stand p l e R s m args below meth c T locs cells slots) (hw : Wd G σ T.heap) (h1 : zX σ + 1 ≤ gC G) (h2 : zS σ + n ≤ gS G) : T.heap.size - s.heap.size + 1 ≤ R.cells ∧ nS T.heap s.heap.size + n ≤ R.slots := by
  obtain ⟨-, -, -, -, -, -, -, -, -, c1, c2, c3⟩ := C
  have a1 := st_size X
  have a2 := st_nS c1 X
  have a3 := hw.1
  have a4 := hw.2.2.2.2.1
  constructor <;> omega
theorem ht_newa {k : Nat} {atype : ArrayType} {n : Int32} {N : Nat} (h1 : 20 ≤ k) (h2 : k < 24) (hty : newarray.typeOf atype = aT k) (hcl : Cond.arrayClass (newarray.typeOf atype) ∈ WS) (hd : decode M.2.1 pc = .ok (.newarray atype, 2)) (hn : ¬ n < 0) (hN : n.toNatClampNeg = N) (hs : N ≤ 1000000) (hc1 : zX σ + 1 ≤ gC G) (hc2 : zS σ + N ≤ gS G) (kk : HT G M (pc + 2) L (.ref (zX σ) :: st) (nw σ k N N) d Q) : HT G M pc L (.int n :: st) σ d Q := by
  intro l p e R s m args below meth c H locs ls Z C hf hl hw hL hq hz T hT X
  subst hT
  have hr := cx_room C X hw hc1 hc2
  have hok := ok_arr (k := k) C.2.2.2.2.2.2.2.2.1 h1 (by omega)
  have hby : N * componentBytes (newarray.typeOf atype) ≤ 536870912 := by
    have : componentBytes (newarray.typeOf atype) ≤ 8 := by cases atype <;> decide
    calc N * componentBytes (newarray.typeOf atype) ≤ 1000000 * 8 := Nat.mul_le_mul hs this
      _ ≤ 536870912 := by decide
  refine va_newaK C.1 C.2.1 (C.2.2.2.2.2.2.2.1 _ hcl) (g := F0 m pc ls (.int n :: st)) rfl hd rfl hn hN hby hr.1 hr.2 rfl ?_ T rfl X
  intro H' cA e1 e2 e3 _ e5
  have hcA : cA = gA G k := by
    have h := hok.2
    have h5 : s.vm.findClass ("[" ++ (aT k).toString) = some cA := by rw [← hty]; exact e5
    have hk4 : k = 20 ∨ k = 21 ∨ k = 22 ∨ k = 23 := by omega
    rcases hk4 with rfl | rfl | rfl | rfl <;> exact Option.some.inj (h5.symm.trans h)
  subst hcA
  have e0 : (F0 m pc ls (.int n :: st)).pc = pc := rfl
  rw [hw.1]
  refine w_tight (kk l p e R s m args below meth c H' locs ls Z C hf hl ?_ hL hq hz)
  refine wd_new hw e2 e3 e1 (arrV_size _ _ _) hc1 hc2 ?_
  have hkk : zK (nw σ k N N) (zX σ) = k := by simp [zK_nw, va_up]
  have hnn : zN (nw σ k N N) (zX σ) = N := by simp [zN_nw, va_up]
  unfold at_
  rw [hkk, hnn, if_neg (by omega), if_pos ⟨h1, by omega⟩, ← hw.1, e1]
  congr 2
  funext j
  have hi : zI (nw σ k N N) T.heap.size j = 0 := by rw [hw.1]; simp [zI_nw, va_up]
  have hj : zJ (nw σ k N N) T.heap.size j = 0 := by rw [hw.1]; simp [zJ_nw, va_up]
  have hk4 : k = 20 ∨ k = 21 ∨ k = 22 ∨ k = 23 := by omega
  rw [hty]
  rcases hk4 with rfl | rfl | rfl | rfl
  · show Value.int 0 = Value.int _
    rw [hi]
  · show Value.long 0 = Value.long _
    rw [hj]
  · show Value.int 0 = Value.int _
    rw [hi]
  · show Value.int 0 = Value.int _
    rw [hi]
theorem ht_anew {k idx : Nat} {Cn : String} {n : Int32} {N : Nat} (hk : k = 24 ∨ k = 25) (hty : FieldType.object Cn = aT k) (hcl : Cond.classLink M.1.cls idx Cn ∈ WS) (hov : Cond.arrayOver (.object Cn) ∈ WS) (hd : decode M.2.1 pc = .ok (.anewarray idx, 3)) (hn : ¬ n < 0) (hN : n.toNatClampNeg = N) (hs : N ≤ 1000000) (hc1 : zX σ + 1 ≤ gC G) (hc2 : zS σ + N ≤ gS G) (kk : HT G M (pc + 3) L (.ref (zX σ) :: st) (nw σ k N N) d Q) : HT G M pc L (.int n :: st) σ d Q := by
  intro l p e R s m args below meth c H locs ls Z C hf hl hw hL hq hz T hT X
  subst hT
  subst hN
  have hr := cx_room C X hw hc1 hc2
  have hok := ok_arr (k := k) C.2.2.2.2.2.2.2.2.1 (by omega) (by omega)
  refine W.anew C.1 C.2.1 C.2.2.2.2.1 (C.2.2.2.2.2.2.2.1 _ hcl) (C.2.2.2.2.2.2.2.1 _ hov) (g := F0 m pc ls (.int n :: st)) rfl hd rfl hn (by omega) hr.1 hr.2 ?_ T rfl X
  intro cA kA comp g1 g2 g3 g4
  have hcA : cA = gA G k := by
    have h := hok.2
    rw [← hty] at h
    obtain ⟨_, _, -, -, -, h5⟩ := h
    exact Option.some.inj (g1.symm.trans h5)
  subst hcA
  rw [hw.1]
  refine w_tight (kk l p e R s m args below meth c _ locs ls Z C hf hl ?_ hL hq hz)
  have e1 : (T.heap.push { cls := gA G k, slots := Array.replicate n.toNatClampNeg .null, vm := .none })[T.heap.size]? = some (arrV (gA G k) n.toNatClampNeg (fun _ => .null)) := by rw [← arrV_new]; simp
  refine wd_new hw (by simp) (fun q hq => by rw [Array.getElem?_push, if_neg (Nat.ne_of_lt hq)]) e1 (arrV_size _ _ _) hc1 hc2 ?_
  have hkk : zK (nw σ k n.toNatClampNeg n.toNatClampNeg) (zX σ) = k := by simp [zK_nw, va_up]
  have hnn : zN (nw σ k n.toNatClampNeg n.toNatClampNeg) (zX σ) = n.toNatClampNeg := by simp [zN_nw, va_up]
  unfold at_
  rw [hkk, hnn, if_neg (by omega), if_pos ⟨by omega, by omega⟩, ← hw.1, e1]
  congr 2
  funext j
  have hi : zQ (nw σ k n.toNatClampNeg n.toNatClampNeg) T.heap.size j = none := by rw [hw.1]; simp [zQ_nw, va_up]
  rcases hk with rfl | rfl
  · show Value.null = va_rf _
    rw [hi]
    rfl
  · show Value.null = va_rf _
    rw [hi]
    rfl
theorem ht_new {ci idx : Nat} (hci : ci < 10) (hcl : Cond.classLink M.1.cls idx (cT ci).1 ∈ WS) (hins : Cond.instantiable (cT ci).1 (cT ci).2.2 ∈ WS) (hini : Cond.initialized (cT ci).1 ∈ WS) (hd : decode M.2.1 pc = .ok (.new idx, 3)) (hc1 : zX σ + 1 ≤ gC G) (hc2 : zS σ + (cT ci).2.2 ≤ gS G) (kk : HT G M (pc + 3) L (.ref (zX σ) :: st) (nw σ ci 0 (cT ci).2.2) d Q) : HT G M pc L st σ d Q := by
  intro l p e R s m args below meth c H locs ls Z C hf hl hw hL hq hz T hT X
  subst hT
  have hr := cx_room C X hw hc1 hc2
  have hts := C.2.2.2.2.2.2.2.1
  have hKn := C.2.2.2.2.2.2.2.2.1.1.1 ci _ (cT_some hci)
  refine W.newcK C.1 C.2.1 C.2.2.2.2.1 (hts _ hcl) (hts _ hins) (hts _ hini) (g := F0 m pc ls st) rfl hd hr.1 hr.2 hKn.2.1 rfl ?_ T rfl X
  intro H' kC hkC e1 e2 e3
  rw [hw.1]
  have hsz : (blank ((gD G).1 ci) kC).slots.size = (cT ci).2.2 := by
    obtain ⟨cC, kC', g1, g2, -, g4⟩ := Cond.instantiable_spec (hts _ hins)
    cases hKn.2.1.symm.trans g1
    cases hkC.symm.trans g2
    simp [blank]
    exact g4.2.2
  refine w_tight (kk l p e R s m args below meth c H' locs ls Z C hf hl ?_ hL hq hz)
  refine wd_new hw e2 e3 e1 hsz hc1 hc2 ?_
  have hkk : zK (nw σ ci 0 (cT ci).2.2) (zX σ) = ci := by simp [zK_nw, va_up]
  unfold at_
  rw [hkk, if_pos hci]
  have hb := u_born (tyC ci) hts (clW hci) hKn hkC e1 (tyC_ok hci)
  rw [hw.1] at hb
  refine hb.to fun j hj => ?_
  rw [dfC hci j hj]
  have hi : zI (nw σ ci 0 (cT ci).2.2) (zX σ) j = 0 := by simp [zI_nw, va_up]
  have hjj : zJ (nw σ ci 0 (cT ci).2.2) (zX σ) j = 0 := by simp [zJ_nw, va_up]
  have hqq : zQ (nw σ ci 0 (cT ci).2.2) (zX σ) j = none := by simp [zQ_nw, va_up]
  unfold fv dfv
  rw [hi, hjj, hqq]
  generalize fT ci j = t
  cases t with
  | zero => rfl
  | succ t => cases t with
    | zero => rfl
    | succ t => rfl
end ArrRules
end
section
/-! ===== a method's contract out of its triple, and calls ===== -/
def sl1 : List Value → List (Option Value)
  | [] => []
  | v :: vs => if v.category = 2 then some v :: none :: sl1 vs else some v :: sl1 vs
def entL (As : List Value) (nL : Nat) : List (Option Value) := sl1 As ++ List.replicate (nL - (sl1 As).length) none
theorem sl1_args (vs : List Value) : ∀ (i j : Nat) (v : Value), (sl1 vs)[j]? = some (some v) → (i + j, v) ∈ lv_args i vs := by
  induction vs with
  | nil => intro i j v h; simp [sl1] at h
  | cons w vs ih =>
    intro i j v h
    unfold sl1 at h
    unfold lv_args
    by_cases hc : w.category = 2
    · rw [if_pos hc] at h ⊢
      match j, h with
      | 0, h => cases h; exact List.mem_cons_self
      | 1, h => cases h
      | j + 2, h =>
        have := ih (i + 2) j v (by simpa using h)
        rw [show i + (j + 2) = i + 2 + j by omega]
        exact List.mem_cons_of_mem _ this
    · rw [if_neg hc] at h ⊢
      match j, h with
      | 0, h => cases h; exact List.mem_cons_self
      | j + 1, h =>
        have := ih (i + 1) j v (by simpa using h)
        rw [show i + (j + 1) = i + 1 + j by omega]
        exact List.mem_cons_of_mem _ this
theorem lv_ent (As : List Value) {nL : Nat} (h : (lg_sl As).length ≤ nL) : LV ((lg_sl As ++ List.replicate (nL - (lg_sl As).length) Slot.unset).toArray) nL (entL As nL) := by
  have hl := lv_entry As h
  refine ⟨hl.1, hl.2.1, fun j v hj => ?_⟩
  have hj2 : (sl1 As)[j]? = some (some v) := by
    unfold entL at hj
    by_cases hlt : j < (sl1 As).length
    · rw [List.getElem?_append_left hlt] at hj
      exact hj
    · rw [List.getElem?_append_right (by omega), List.getElem?_replicate] at hj
      split at hj <;> cases hj
  have := sl1_args As 0 j v hj2
  rw [Nat.zero_add] at this
  exact hl.2.2 (j, v) this
/-- the triple of a whole method -/
def Sp (G : GG) (M : MI) (d : Nat) (As : List Value) (σ : Hp) (Q : Option Value → Hp → Prop) : Prop := HT G M 0 (entL As M.2.2.1) [] σ d Q
theorem WS_good {ws : List Cond} (h : ∀ w ∈ ws, w ∈ WS) : GoodIn WS ws := fun w hw => ⟨h w hw, good_of_word (List.mem_filter.mp (h w hw)).2⟩
/-- what the tables say of a method -/
def MV (M : MI) : Prop := Cond.code M.1 M.2.1 M.2.2.1 M.2.2.2 ∈ WS ∧ Cond.initialized M.1.cls ∈ WS ∧ plainName M.1.cls = true ∧ (M.1.cls ≠ "java/lang/invoke/MethodHandle" ∧ M.1.cls ≠ "java/lang/invoke/VarHandle") ∧ M.2.2.1 ≤ 45
def mPc (G : GG) (As : List Value) (σ : Hp) : Array Value → State → Prop := va_Pc As (fun U => Wd G σ U.heap ∧ Ok G U)
def mQc (G : GG) (Q : Option Value → Hp → Prop) : Array Value → State → Outcome → State → Prop := fun _ _ o t => ∃ (v : Option Value) (σ' : Hp), o = .returned v ∧ Q v σ' ∧ Wd G σ' t.heap
def mRm (G : GG) (σ : Hp) (d : Nat) : Room := { frames := d, cells := gC G - zX σ, slots := gS G - zS σ, locals := 64 * d }
theorem mPc_blind (G : GG) (As : List Value) (σ : Hp) : FrameBlind (mPc G As σ) := fun a U g mk h => ⟨h.1, h.2.1, Ok.same (s := U) (U := U.calling g mk a) rfl h.2.2⟩
set_option maxHeartbeats 4000000 in
theorem met_of {G : GG} {M : MI} {d : Nat} {As : List Value} {σ : Hp} {Q : Option Value → Hp → Prop} (l : Launch) (hp : plainName M.1.cls = true) (hlen : (lg_sl As).length ≤ M.2.2.1) (hS : Sp G M d As σ Q) :
    Met l M.1 (Cond.code M.1 M.2.1 M.2.2.1 M.2.2.2 :: WS) (mRm G σ d) (mPc G As σ) (mQc G Q) (gC G - zX σ) (gS G - zS σ) (fun q => gB G ≤ q) := by
  refine Met.ofW (cc := M.2.1) (maxL := M.2.2.1) (ret := M.2.2.2) hp rfl ?_
  intro p e s m args below meth c s₁ B hml hv
  obtain ⟨rfl, hw, hok⟩ := hv
  have hts := atoms_spec (ws := Cond.code M.1 M.2.1 M.2.2.1 M.2.2.2 :: WS) B.pre
  have w1 := hw.1
  have w2 := hw.2.1
  have w3 := hw.2.2.1
  have w4 := hw.2.2.2.1
  have w5 := hw.2.2.2.2.1
  have hlk : meth.locks = false := B.notSynchronized
  have C : Cx G M p (headSpec (Cond.code M.1 M.2.1 M.2.2.1 M.2.2.2 :: WS) (mRm G σ d)).room s m As.toArray meth c :=
    ⟨B.exec, B.bytes, B.returns, hml, findClass_of_methodNamed B.named, hlk, (name_of_methodNamed B.named B.method).1, fun w h => hts w (List.mem_cons_of_mem _ h), hok, by rw [w1]; exact w2, by show gC G ≤ s.heap.size + (gC G - zX σ); omega, by show gS G ≤ nS s.heap (gB G) + (gS G - zS σ); omega⟩
  rw [lg_entry_eq]
  refine w_tight (hS l p e _ s m As.toArray below meth c s.heap [] _ _ C (Nat.le_refl _) (Nat.le_refl _) hw (lv_ent As hlen) (fun q h => by cases h) ?_)
  intro v σ' H' locs' pc' ls' hQ hw' hlo hret T hT X
  subst hT
  have a1 := st_nS (b := gB G) C.2.2.2.2.2.2.2.2.2.1 X
  have a3 := hw'.1
  have a4 := hw'.2.2.1
  have a5 := hw'.2.2.2.1
  have a6 := hw'.2.2.2.2.1
  have b1 : T.heap.size - s.heap.size ≤ gC G - zX σ := by omega
  have b2 : nS T.heap s.heap.size ≤ gS G - zS σ := by omega
  refine W.widen b1 b2 ?_ T rfl X
  have hq : ∀ t : State, t.heap = T.heap → s.WarmedH t.vm → mQc G Q As.toArray s (.returned v) t := fun t ht _ => ⟨v, σ', rfl, hQ, by rw [ht]; exact hw'⟩
  match v, hret, hq with
  | none, hret, hq => exact W.vret C.1 C.2.1 (C.2.2.1.trans hret.2) hq hlo hret.1 hlk
  | some (.int x), hret, hq =>
    obtain ⟨r1, ty, r2, r3⟩ := hret
    exact W.zret C.1 C.2.1 (C.2.2.1.trans r2) r3 hq hlo r1 hlk
  | some (.long x), hret, hq => exact W.lret C.1 C.2.1 (C.2.2.1.trans hret.2) hq hlo hret.1 hlk
  | some .null, hret, hq =>
    obtain ⟨r1, ty, r2, r3⟩ := hret
    exact W.aret C.1 C.2.1 (C.2.2.1.trans r2) r3 (Or.inl rfl) hq hlo r1 hlk
  | some (.ref x), hret, hq =>
    obtain ⟨r1, ty, r2, r3⟩ := hret
    exact W.aret C.1 C.2.1 (C.2.2.1.trans r2) r3 (Or.inr ⟨x, rfl⟩) hq hlo r1 hlk
section CallRules
variable {G : GG} {M M' : MI} {pc : Nat} {L : List (Option Value)} {st : List Value} {σ : Hp} {d d' : Nat} {Q Qc : Option Value → Hp → Prop} {As rest : List Value} {idx : Nat}
/-- behind a call -/
theorem ht_run {g0 : List Value} {Aa : List Value}
    (h : ∀ (l : Launch) (p : Program) (e : Env) (R : Room) (s : State) (m : MethodId) (args : Array Value) (below : List Frame) (meth : Method) (c : Code) (H : Heap) (locs : List Loc) (ls : Array Slot), Cx G M p R s m args meth c → d ≤ R.frames → 64 * d ≤ R.locals → Wd G σ H → LV ls M.2.2.1 L → H.size - s.heap.size + (gC G - zX σ) ≤ R.cells → nS H s.heap.size + (gS G - zS σ) ≤ R.slots →
      va_Run p l e R s m args below meth c H locs (H.size - s.heap.size) (nS H s.heap.size) (gC G - zX σ) (gS G - zS σ) (F0 m pc ls g0) rest (mQc G Qc Aa.toArray) (fun q => gB G ≤ q))
    (kk : ∀ v σ', Qc v σ' → HT G M (pc + 3) L (v.toList ++ rest) σ' d Q) : HT G M pc L g0 σ d Q := by
  intro l p e R s m args below meth c H locs ls Z C hf hl hw hL hq hz T hT X
  subst hT
  have a0 := st_size X
  have a1 := st_nS (b := gB G) C.2.2.2.2.2.2.2.2.2.1 X
  have a3 := hw.1
  have a4 := hw.2.2.1
  have a5 := hw.2.2.2.1
  have a6 := hw.2.2.2.2.1
  have c2 := C.2.2.2.2.2.2.2.2.2.2.1
  have c3 := C.2.2.2.2.2.2.2.2.2.2.2
  obtain ⟨v, st₀, t, T', L', h0, X', hL', e1, e2, ⟨v', σ', hv, hQ, hw'⟩, stp⟩ := h l p e R s m args below meth c T.heap locs ls C hf hl hw hL (by omega) (by omega) T rfl X
  cases hv
  rw [← e1] at hw'
  obtain ⟨t2, k1, k2⟩ := kk v σ' hQ l p e R s m args below meth c T'.heap (locs ++ L') ls Z C hf hl hw' hL (fun q h => by
    rcases List.mem_append.mp h with h | h
    · exact hq q h
    · exact hL' q h) hz T' rfl (st_tight X')
  exact ⟨t2, stp t2 k1, k2⟩
theorem ht_callV {b ci n : Nat} (hM : MV M') (h1 : Cond.methodLink M.1.cls idx M'.1 ∈ WS) (h2 : Cond.instanceMethod M'.1 ∈ WS) (h3 : Cond.selects M'.1.cls M'.1 M'.1 ∈ WS) (hp : (parseMethodDescriptor M'.1.desc).map (fun d => d.parameters.length) = some n) (hn : As.length = n)
    (hci : ci < 10) (hcn : (cT ci).1 = M'.1.cls) (hK : zK σ b = ci) (hd : decode M.2.1 pc = .ok (.invokevirtual idx, 3)) (hlen : (lg_sl (.ref b :: As)).length ≤ M'.2.2.1) (hst : st = As.reverse ++ .ref b :: rest) (hr : (rest.map fun v => v.category).sum ≤ 8) (hdd : d' + 1 ≤ d) (hS : Sp G M' d' (.ref b :: As) σ Qc)
    (kk : ∀ v σ', Qc v σ' → HT G M (pc + 3) L (v.toList ++ rest) σ' d Q) : HT G M pc L st σ d Q := by
  subst hst
  refine ht_run (Aa := .ref b :: As) (fun l p e R s m args below meth c H locs ls C hf hl hw hL g1 g2 => ?_) kk
  have hts := C.2.2.2.2.2.2.2.1
  have hok := C.2.2.2.2.2.2.2.2.1
  refine va_runV (As := As) (rest := rest) (C := M'.1.cls) (b := b) ⟨C.1, C.2.1, C.2.2.2.1, C.2.2.2.2.1, hts⟩ (met_of l hM.2.2.1 hlen hS) (cwV n hts (WS_good fun w hw => ?_) rfl rfl rfl ⟨rfl, hM.2.2.2.1.1, hM.2.2.2.1.2, hp⟩ ⟨by show d' + 1 ≤ R.frames; omega, by show 8 + (M'.2.2.1 + 11) + 64 * d' ≤ R.locals; have := hM.2.2.2.2; omega⟩) ⟨mPc_blind G _ σ, ?_, fun U hU hW => ⟨rfl, by rw [hU]; exact hw, hok.warm hW⟩⟩ rfl hn hL.1 rfl (lv_room hr) hd ⟨g1, g2⟩
  · simp only [wsV, List.mem_append, List.mem_cons, List.not_mem_nil, or_false] at hw
    rcases hw with (rfl | rfl | rfl | rfl) | rfl | hw
    · exact h1
    · exact h2
    · exact h3
    · exact hM.2.1
    · exact hM.1
    · exact hw
  · obtain ⟨cell, q1, q2, q3, -⟩ := hw.obj hK hci
    exact ⟨cell, q1, by rw [q3]; rfl, by rw [q2, ← hcn]; exact (hok.1.1 ci _ (cT_some hci)).2.1⟩
theorem ht_callS {n : Nat} (hM : MV M') (h1 : Cond.methodLink M.1.cls idx M'.1 ∈ WS) (h2 : Cond.static M'.1 ∈ WS) (hp : (parseMethodDescriptor M'.1.desc).map (fun d => d.parameters.length) = some n) (hn : As.length = n)
    (hd : decode M.2.1 pc = .ok (.invokestatic idx, 3)) (hlen : (lg_sl As).length ≤ M'.2.2.1) (hst : st = As.reverse ++ rest) (hr : (rest.map fun v => v.category).sum ≤ 8) (hdd : d' + 1 ≤ d) (hS : Sp G M' d' As σ Qc)
    (kk : ∀ v σ', Qc v σ' → HT G M (pc + 3) L (v.toList ++ rest) σ' d Q) : HT G M pc L st σ d Q := by
  subst hst
  refine ht_run (Aa := As) (fun l p e R s m args below meth c H locs ls C hf hl hw hL g1 g2 => ?_) kk
  have hts := C.2.2.2.2.2.2.2.1
  have hok := C.2.2.2.2.2.2.2.2.1
  exact va_runS (As := As) (rest := rest) ⟨C.1, C.2.1, C.2.2.2.1, C.2.2.2.2.1, hts⟩ (met_of l hM.2.2.1 hlen hS) ⟨callB_of n hts (WS_good fun w hw => (List.mem_cons.mp hw).elim (fun e => e ▸ hM.1) id) rfl rfl rfl (hts _ hM.2.1) (hts _ h1) ⟨hM.2.2.2.1.1, hM.2.2.2.1.2, hp⟩ ⟨by show d' + 1 ≤ R.frames; omega, by show 8 + (M'.2.2.1 + 11) + 64 * d' ≤ R.locals; have := hM.2.2.2.2; omega⟩, hts _ h2⟩ ⟨mPc_blind G _ σ, fun U hU hW => ⟨rfl, by rw [hU]; exact hw, hok.warm hW⟩⟩ rfl hn hL.1 rfl (lv_room hr) hd ⟨g1, g2⟩
theorem ht_callI {b n : Nat} (hM : MV M') (hnone : M'.2.2.2 = none) (hin : M'.1.name = "<init>") (h1 : Cond.methodLink M.1.cls idx M'.1 ∈ WS) (h2 : Cond.instanceMethod M'.1 ∈ WS) (hp : (parseMethodDescriptor M'.1.desc).map (fun d => d.parameters.length) = some n) (hn : As.length = n)
    (hd : decode M.2.1 pc = .ok (.invokespecial idx, 3)) (hlen : (lg_sl (.ref b :: As)).length ≤ M'.2.2.1) (hst : st = As.reverse ++ .ref b :: rest) (hr : (rest.map fun v => v.category).sum ≤ 8) (hdd : d' + 1 ≤ d) (hS : Sp G M' d' (.ref b :: As) σ Qc)
    (kk : ∀ v σ', Qc v σ' → HT G M (pc + 3) L (v.toList ++ rest) σ' d Q) : HT G M pc L st σ d Q := by
  subst hst
  refine ht_run (Aa := .ref b :: As) (fun l p e R s m args below meth c H locs ls C hf hl hw hL g1 g2 => ?_) kk
  have hts := C.2.2.2.2.2.2.2.1
  have hok := C.2.2.2.2.2.2.2.2.1
  have hMt := met_of l hM.2.2.1 hlen hS
  have hc := hM.1
  rw [hnone] at hMt hc
  exact va_runI (As := As) (rest := rest) (b := b) ⟨C.1, C.2.1, C.2.2.2.1, C.2.2.2.2.1, hts⟩ hMt ⟨callB_of n hts (WS_good fun w hw => (List.mem_cons.mp hw).elim (fun e => e ▸ hc) id) rfl rfl rfl (hts _ hM.2.1) (hts _ h1) ⟨hM.2.2.2.1.1, hM.2.2.2.1.2, hp⟩ ⟨by show d' + 1 ≤ R.frames; omega, by show 8 + (M'.2.2.1 + 11) + 64 * d' ≤ R.locals; have := hM.2.2.2.2; omega⟩, hin, hts _ h2⟩ ⟨mPc_blind G _ σ, fun U hU hW => ⟨rfl, by rw [hU]; exact hw, hok.warm hW⟩⟩ rfl hn hL.1 rfl (lv_room hr) hd ⟨g1, g2⟩
theorem ht_callIN {b n : Nat} {host : String} (hM : MV M') (hnone : M'.2.2.2 = none) (hin : M'.1.name = "<init>") (h1 : ∀ s, gE G s → va_Nw (.methodLinkNest M.1.cls idx M'.1 host) s) (h2 : Cond.instanceMethod M'.1 ∈ WS) (hp : (parseMethodDescriptor M'.1.desc).map (fun d => d.parameters.length) = some n) (hn : As.length = n)
    (hd : decode M.2.1 pc = .ok (.invokespecial idx, 3)) (hlen : (lg_sl (.ref b :: As)).length ≤ M'.2.2.1) (hst : st = As.reverse ++ .ref b :: rest) (hr : (rest.map fun v => v.category).sum ≤ 8) (hdd : d' + 1 ≤ d) (hS : Sp G M' d' (.ref b :: As) σ Qc)
    (kk : ∀ v σ', Qc v σ' → HT G M (pc + 3) L (v.toList ++ rest) σ' d Q) : HT G M pc L st σ d Q := by
  subst hst
  refine ht_run (Aa := .ref b :: As) (fun l p e R s m args below meth c H locs ls C hf hl hw hL g1 g2 => ?_) kk
  have hts := C.2.2.2.2.2.2.2.1
  have hok := C.2.2.2.2.2.2.2.2.1
  have hMt := met_of l hM.2.2.1 hlen hS
  have hc := hM.1
  rw [hnone] at hMt hc
  exact va_runIN (As := As) (rest := rest) (b := b) ⟨C.1, C.2.1, C.2.2.2.1, C.2.2.2.2.1, hts⟩ hMt ⟨va_cnB n hts (WS_good fun w hw => (List.mem_cons.mp hw).elim (fun e => e ▸ hc) id) rfl rfl rfl (h1 s hok.2.1) (hts _ hM.2.1) ⟨hM.2.2.2.1.1, hM.2.2.2.1.2, hp⟩ ⟨by show d' + 1 ≤ R.frames; omega, by show 8 + (M'.2.2.1 + 11) + 64 * d' ≤ R.locals; have := hM.2.2.2.2; omega⟩, hin, hts _ h2⟩ ⟨mPc_blind G _ σ, fun U hU hW => ⟨rfl, by rw [hU]; exact hw, hok.warm hW⟩⟩ rfl hn hL.1 rfl (lv_room hr) hd ⟨g1, g2⟩
theorem ht_callSN {n : Nat} {host : String} (hM : MV M') (h1 : ∀ s, gE G s → va_Nw (.methodLinkNest M.1.cls idx M'.1 host) s) (h2 : Cond.static M'.1 ∈ WS) (hp : (parseMethodDescriptor M'.1.desc).map (fun d => d.parameters.length) = some n) (hn : As.length = n)
    (hd : decode M.2.1 pc = .ok (.invokestatic idx, 3)) (hlen : (lg_sl As).length ≤ M'.2.2.1) (hst : st = As.reverse ++ rest) (hr : (rest.map fun v => v.category).sum ≤ 8) (hdd : d' + 1 ≤ d) (hS : Sp G M' d' As σ Qc)
    (kk : ∀ v σ', Qc v σ' → HT G M (pc + 3) L (v.toList ++ rest) σ' d Q) : HT G M pc L st σ d Q := by
  subst hst
  refine ht_run (Aa := As) (fun l p e R s m args below meth c H locs ls C hf hl hw hL g1 g2 => ?_) kk
  have hts := C.2.2.2.2.2.2.2.1
  have hok := C.2.2.2.2.2.2.2.2.1
  exact va_runSN (As := As) (rest := rest) ⟨C.1, C.2.1, C.2.2.2.1, C.2.2.2.2.1, hts⟩ (met_of l hM.2.2.1 hlen hS) ⟨va_cnB n hts (WS_good fun w hw => (List.mem_cons.mp hw).elim (fun e => e ▸ hM.1) id) rfl rfl rfl (h1 s hok.2.1) (hts _ hM.2.1) ⟨hM.2.2.2.1.1, hM.2.2.2.1.2, hp⟩ ⟨by show d' + 1 ≤ R.frames; omega, by show 8 + (M'.2.2.1 + 11) + 64 * d' ≤ R.locals; have := hM.2.2.2.2; omega⟩, hts _ h2, trivial⟩ ⟨mPc_blind G _ σ, fun U hU hW => ⟨rfl, by rw [hU]; exact hw, hok.warm hW⟩⟩ rfl hn hL.1 rfl (lv_room hr) hd ⟨g1, g2⟩
theorem ht_objInit {a : Nat} (h1 : Cond.methodLink M.1.cls idx Lib.objectInit ∈ WS) (h2 : Cond.instanceMethod Lib.objectInit ∈ WS) (h3 : Cond.code Lib.objectInit ⟨#[0xb1]⟩ 1 none ∈ WS) (hd : decode M.2.1 pc = .ok (.invokespecial idx, 3)) (hr : (rest.map fun v => v.category).sum ≤ 8) (hdd : 1 ≤ d) (kk : HT G M (pc + 3) L rest σ d Q) : HT G M pc L (.ref a :: rest) σ d Q := by
  intro l p e R s m args below meth c H locs ls Z C hf hl hw hL hq hz
  have hts := C.2.2.2.2.2.2.2.1
  exact W.objInit C.1 C.2.1 C.2.2.2.2.1 (hts _ h1) (hts _ h2) (hts _ h3) rfl (hL.1.trans C.2.2.2.1.symm) rfl hd (by omega) (by have := lv_room (m := m) (pc := pc) (ls := ls) (rest := .ref a :: rest) hr; omega) (kk l p e R s m args below meth c H locs ls Z C hf hl hw hL hq hz)
end CallRules
end
