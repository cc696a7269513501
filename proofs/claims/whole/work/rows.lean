section
-- ===== PART A: goes FIRST, ahead of the names: the tables' words, and 'selects' of the private methods out of them =====
/-- a private method of a class that the tables say can be made, by its rows of tables_1 -/
def lw_okq (q : MethodName × Nat) : Prop := (q.1.cls ≠ "java/lang/invoke/MethodHandle" ∧ q.1.cls ≠ "java/lang/invoke/VarHandle") ∧ Cond.instantiable q.1.cls q.2 ∈ tables_1 ∧ Cond.privateMethod q.1 ∈ tables_1 ∧ Cond.instanceMethod q.1 ∈ tables_1
theorem lw_p0 : lw_okq (⟨"GroupCommits$Log", "beginGroup", "()V"⟩, 12) := ⟨⟨by decide +kernel, by decide +kernel⟩, List.mem_of_getElem? (i := 21) (by decide +kernel), List.mem_of_getElem? (i := 271) (by decide +kernel), List.mem_of_getElem? (i := 272) (by decide +kernel)⟩
theorem lw_p1 : lw_okq (⟨"GroupCommits$Log", "setOpenCommit", "(II)V"⟩, 12) := ⟨⟨by decide +kernel, by decide +kernel⟩, List.mem_of_getElem? (i := 21) (by decide +kernel), List.mem_of_getElem? (i := 292) (by decide +kernel), List.mem_of_getElem? (i := 293) (by decide +kernel)⟩
theorem lw_p2 : lw_okq (⟨"GroupCommits$Log", "reasonToClose", "(ZII)I"⟩, 12) := ⟨⟨by decide +kernel, by decide +kernel⟩, List.mem_of_getElem? (i := 21) (by decide +kernel), List.mem_of_getElem? (i := 300) (by decide +kernel), List.mem_of_getElem? (i := 301) (by decide +kernel)⟩
theorem lw_p3 : lw_okq (⟨"GroupCommits$Log", "closeGathering", "(I)V"⟩, 12) := ⟨⟨by decide +kernel, by decide +kernel⟩, List.mem_of_getElem? (i := 21) (by decide +kernel), List.mem_of_getElem? (i := 308) (by decide +kernel), List.mem_of_getElem? (i := 309) (by decide +kernel)⟩
theorem lw_p4 : lw_okq (⟨"GroupCommits$Log", "learnWait", "(I)V"⟩, 12) := ⟨⟨by decide +kernel, by decide +kernel⟩, List.mem_of_getElem? (i := 21) (by decide +kernel), List.mem_of_getElem? (i := 328) (by decide +kernel), List.mem_of_getElem? (i := 329) (by decide +kernel)⟩
theorem lw_p5 : lw_okq (⟨"GroupCommits$Log", "startWriting", "()V"⟩, 12) := ⟨⟨by decide +kernel, by decide +kernel⟩, List.mem_of_getElem? (i := 21) (by decide +kernel), List.mem_of_getElem? (i := 338) (by decide +kernel), List.mem_of_getElem? (i := 339) (by decide +kernel)⟩
theorem lw_p6 : lw_okq (⟨"GroupCommits$Log", "ticksToWrite", "(I)I"⟩, 12) := ⟨⟨by decide +kernel, by decide +kernel⟩, List.mem_of_getElem? (i := 21) (by decide +kernel), List.mem_of_getElem? (i := 350) (by decide +kernel), List.mem_of_getElem? (i := 351) (by decide +kernel)⟩
theorem lw_p7 : lw_okq (⟨"GroupCommits$Log", "leaveGathering", "(I)V"⟩, 12) := ⟨⟨by decide +kernel, by decide +kernel⟩, List.mem_of_getElem? (i := 21) (by decide +kernel), List.mem_of_getElem? (i := 375) (by decide +kernel), List.mem_of_getElem? (i := 376) (by decide +kernel)⟩
theorem lw_p8 : lw_okq (⟨"GroupCommits$Log", "endCommit", "(II)V"⟩, 12) := ⟨⟨by decide +kernel, by decide +kernel⟩, List.mem_of_getElem? (i := 21) (by decide +kernel), List.mem_of_getElem? (i := 395) (by decide +kernel), List.mem_of_getElem? (i := 396) (by decide +kernel)⟩
theorem lw_p9 : lw_okq (⟨"GroupCommits$Log", "dropGroups", "()V"⟩, 12) := ⟨⟨by decide +kernel, by decide +kernel⟩, List.mem_of_getElem? (i := 21) (by decide +kernel), List.mem_of_getElem? (i := 431) (by decide +kernel), List.mem_of_getElem? (i := 432) (by decide +kernel)⟩
theorem lw_p10 : lw_okq (⟨"GroupCommits$Log", "passTick", "()I"⟩, 12) := ⟨⟨by decide +kernel, by decide +kernel⟩, List.mem_of_getElem? (i := 21) (by decide +kernel), List.mem_of_getElem? (i := 443) (by decide +kernel), List.mem_of_getElem? (i := 444) (by decide +kernel)⟩
theorem lw_p11 : lw_okq (⟨"GroupCommits$Log", "finishWriting", "()I"⟩, 12) := ⟨⟨by decide +kernel, by decide +kernel⟩, List.mem_of_getElem? (i := 21) (by decide +kernel), List.mem_of_getElem? (i := 447) (by decide +kernel), List.mem_of_getElem? (i := 448) (by decide +kernel)⟩
theorem lw_p12 : lw_okq (⟨"GroupCommits$Script", "characterAt", "(I)C"⟩, 7) := ⟨⟨by decide +kernel, by decide +kernel⟩, List.mem_of_getElem? (i := 172) (by decide +kernel), List.mem_of_getElem? (i := 503) (by decide +kernel), List.mem_of_getElem? (i := 504) (by decide +kernel)⟩
theorem lw_p13 : lw_okq (⟨"GroupCommits$Script", "readNumber", "()I"⟩, 7) := ⟨⟨by decide +kernel, by decide +kernel⟩, List.mem_of_getElem? (i := 172) (by decide +kernel), List.mem_of_getElem? (i := 538) (by decide +kernel), List.mem_of_getElem? (i := 539) (by decide +kernel)⟩
theorem lw_p14 : lw_okq (⟨"GroupCommits$Script", "readRecords", "()V"⟩, 7) := ⟨⟨by decide +kernel, by decide +kernel⟩, List.mem_of_getElem? (i := 172) (by decide +kernel), List.mem_of_getElem? (i := 542) (by decide +kernel), List.mem_of_getElem? (i := 543) (by decide +kernel)⟩
theorem lw_p15 : lw_okq (⟨"GroupCommits", "carryOutOrder", "()Z"⟩, 5) := ⟨⟨by decide +kernel, by decide +kernel⟩, List.mem_of_getElem? (i := 13) (by decide +kernel), List.mem_of_getElem? (i := 546) (by decide +kernel), List.mem_of_getElem? (i := 547) (by decide +kernel)⟩
def lw_privs_1 : List (MethodName × Nat) := [(⟨"GroupCommits$Log", "beginGroup", "()V"⟩, 12), (⟨"GroupCommits$Log", "setOpenCommit", "(II)V"⟩, 12), (⟨"GroupCommits$Log", "reasonToClose", "(ZII)I"⟩, 12), (⟨"GroupCommits$Log", "closeGathering", "(I)V"⟩, 12), (⟨"GroupCommits$Log", "learnWait", "(I)V"⟩, 12), (⟨"GroupCommits$Log", "startWriting", "()V"⟩, 12), (⟨"GroupCommits$Log", "ticksToWrite", "(I)I"⟩, 12), (⟨"GroupCommits$Log", "leaveGathering", "(I)V"⟩, 12), (⟨"GroupCommits$Log", "endCommit", "(II)V"⟩, 12), (⟨"GroupCommits$Log", "dropGroups", "()V"⟩, 12), (⟨"GroupCommits$Log", "passTick", "()I"⟩, 12), (⟨"GroupCommits$Log", "finishWriting", "()I"⟩, 12), (⟨"GroupCommits$Script", "characterAt", "(I)C"⟩, 7), (⟨"GroupCommits$Script", "readNumber", "()I"⟩, 7), (⟨"GroupCommits$Script", "readRecords", "()V"⟩, 7), (⟨"GroupCommits", "carryOutOrder", "()Z"⟩, 5)]
theorem lw_r1 : ∀ q ∈ lw_privs_1, lw_okq q := List.forall_mem_cons.mpr ⟨lw_p0, List.forall_mem_cons.mpr ⟨lw_p1, List.forall_mem_cons.mpr ⟨lw_p2, List.forall_mem_cons.mpr ⟨lw_p3, List.forall_mem_cons.mpr ⟨lw_p4, List.forall_mem_cons.mpr ⟨lw_p5, List.forall_mem_cons.mpr ⟨lw_p6, List.forall_mem_cons.mpr ⟨lw_p7, List.forall_mem_cons.mpr ⟨lw_p8, List.forall_mem_cons.mpr ⟨lw_p9, List.forall_mem_cons.mpr ⟨lw_p10, List.forall_mem_cons.mpr ⟨lw_p11, List.forall_mem_cons.mpr ⟨lw_p12, List.forall_mem_cons.mpr ⟨lw_p13, List.forall_mem_cons.mpr ⟨lw_p14, List.forall_mem_cons.mpr ⟨lw_p15, fun _ h => absurd h List.not_mem_nil⟩⟩⟩⟩⟩⟩⟩⟩⟩⟩⟩⟩⟩⟩⟩⟩
theorem lw_p16 : lw_okq (⟨"GroupCommits$Log", "busyClients", "()I"⟩, 12) := ⟨⟨by decide +kernel, by decide +kernel⟩, List.mem_of_getElem? (i := 21) (by decide +kernel), List.mem_of_getElem? (i := 663) (by decide +kernel), List.mem_of_getElem? (i := 664) (by decide +kernel)⟩
theorem lw_p17 : lw_okq (⟨"GroupCommits$Log", "ticksToWritten", "(I)I"⟩, 12) := ⟨⟨by decide +kernel, by decide +kernel⟩, List.mem_of_getElem? (i := 21) (by decide +kernel), List.mem_of_getElem? (i := 683) (by decide +kernel), List.mem_of_getElem? (i := 684) (by decide +kernel)⟩
theorem lw_p18 : lw_okq (⟨"GroupCommits$Log", "ticksToEndOfWriting", "()I"⟩, 12) := ⟨⟨by decide +kernel, by decide +kernel⟩, List.mem_of_getElem? (i := 21) (by decide +kernel), List.mem_of_getElem? (i := 687) (by decide +kernel), List.mem_of_getElem? (i := 688) (by decide +kernel)⟩
theorem lw_p19 : lw_okq (⟨"GroupCommits$Log", "ticksToFreeDisk", "()I"⟩, 12) := ⟨⟨by decide +kernel, by decide +kernel⟩, List.mem_of_getElem? (i := 21) (by decide +kernel), List.mem_of_getElem? (i := 703) (by decide +kernel), List.mem_of_getElem? (i := 704) (by decide +kernel)⟩
theorem lw_p20 : lw_okq (⟨"GroupCommitsModel", "record", "()V"⟩, 13) := ⟨⟨by decide +kernel, by decide +kernel⟩, List.mem_of_getElem? (i := 724) (by decide +kernel), List.mem_of_getElem? (i := 782) (by decide +kernel), List.mem_of_getElem? (i := 783) (by decide +kernel)⟩
theorem lw_p21 : lw_okq (⟨"GroupCommitsModel", "whyNotSubmitted", "(II)I"⟩, 13) := ⟨⟨by decide +kernel, by decide +kernel⟩, List.mem_of_getElem? (i := 724) (by decide +kernel), List.mem_of_getElem? (i := 790) (by decide +kernel), List.mem_of_getElem? (i := 791) (by decide +kernel)⟩
theorem lw_p22 : lw_okq (⟨"GroupCommitsModel", "openOf", "(I)I"⟩, 13) := ⟨⟨by decide +kernel, by decide +kernel⟩, List.mem_of_getElem? (i := 724) (by decide +kernel), List.mem_of_getElem? (i := 800) (by decide +kernel), List.mem_of_getElem? (i := 801) (by decide +kernel)⟩
theorem lw_p23 : lw_okq (⟨"GroupCommitsModel", "of", "(II)I"⟩, 13) := ⟨⟨by decide +kernel, by decide +kernel⟩, List.mem_of_getElem? (i := 724) (by decide +kernel), List.mem_of_getElem? (i := 804) (by decide +kernel), List.mem_of_getElem? (i := 805) (by decide +kernel)⟩
theorem lw_p24 : lw_okq (⟨"GroupCommitsModel", "doesSubmit", "(IIZ)I"⟩, 13) := ⟨⟨by decide +kernel, by decide +kernel⟩, List.mem_of_getElem? (i := 724) (by decide +kernel), List.mem_of_getElem? (i := 808) (by decide +kernel), List.mem_of_getElem? (i := 809) (by decide +kernel)⟩
theorem lw_p25 : lw_okq (⟨"GroupCommitsModel", "begin", "()I"⟩, 13) := ⟨⟨by decide +kernel, by decide +kernel⟩, List.mem_of_getElem? (i := 724) (by decide +kernel), List.mem_of_getElem? (i := 812) (by decide +kernel), List.mem_of_getElem? (i := 813) (by decide +kernel)⟩
theorem lw_p26 : lw_okq (⟨"GroupCommitsModel", "setGroup", "(III)V"⟩, 13) := ⟨⟨by decide +kernel, by decide +kernel⟩, List.mem_of_getElem? (i := 724) (by decide +kernel), List.mem_of_getElem? (i := 816) (by decide +kernel), List.mem_of_getElem? (i := 817) (by decide +kernel)⟩
theorem lw_p27 : lw_okq (⟨"GroupCommitsModel", "setOf", "(III)V"⟩, 13) := ⟨⟨by decide +kernel, by decide +kernel⟩, List.mem_of_getElem? (i := 724) (by decide +kernel), List.mem_of_getElem? (i := 820) (by decide +kernel), List.mem_of_getElem? (i := 821) (by decide +kernel)⟩
theorem lw_p28 : lw_okq (⟨"GroupCommitsModel", "recordsOf", "(I)I"⟩, 13) := ⟨⟨by decide +kernel, by decide +kernel⟩, List.mem_of_getElem? (i := 724) (by decide +kernel), List.mem_of_getElem? (i := 824) (by decide +kernel), List.mem_of_getElem? (i := 825) (by decide +kernel)⟩
theorem lw_p29 : lw_okq (⟨"GroupCommitsModel", "isIn", "(II)Z"⟩, 13) := ⟨⟨by decide +kernel, by decide +kernel⟩, List.mem_of_getElem? (i := 724) (by decide +kernel), List.mem_of_getElem? (i := 828) (by decide +kernel), List.mem_of_getElem? (i := 829) (by decide +kernel)⟩
theorem lw_p30 : lw_okq (⟨"GroupCommitsModel", "isLate", "()Z"⟩, 13) := ⟨⟨by decide +kernel, by decide +kernel⟩, List.mem_of_getElem? (i := 724) (by decide +kernel), List.mem_of_getElem? (i := 832) (by decide +kernel), List.mem_of_getElem? (i := 833) (by decide +kernel)⟩
theorem lw_p31 : lw_okq (⟨"GroupCommitsModel", "ofGroup", "(II)I"⟩, 13) := ⟨⟨by decide +kernel, by decide +kernel⟩, List.mem_of_getElem? (i := 724) (by decide +kernel), List.mem_of_getElem? (i := 836) (by decide +kernel), List.mem_of_getElem? (i := 837) (by decide +kernel)⟩
def lw_privs_2 : List (MethodName × Nat) := [(⟨"GroupCommits$Log", "busyClients", "()I"⟩, 12), (⟨"GroupCommits$Log", "ticksToWritten", "(I)I"⟩, 12), (⟨"GroupCommits$Log", "ticksToEndOfWriting", "()I"⟩, 12), (⟨"GroupCommits$Log", "ticksToFreeDisk", "()I"⟩, 12), (⟨"GroupCommitsModel", "record", "()V"⟩, 13), (⟨"GroupCommitsModel", "whyNotSubmitted", "(II)I"⟩, 13), (⟨"GroupCommitsModel", "openOf", "(I)I"⟩, 13), (⟨"GroupCommitsModel", "of", "(II)I"⟩, 13), (⟨"GroupCommitsModel", "doesSubmit", "(IIZ)I"⟩, 13), (⟨"GroupCommitsModel", "begin", "()I"⟩, 13), (⟨"GroupCommitsModel", "setGroup", "(III)V"⟩, 13), (⟨"GroupCommitsModel", "setOf", "(III)V"⟩, 13), (⟨"GroupCommitsModel", "recordsOf", "(I)I"⟩, 13), (⟨"GroupCommitsModel", "isIn", "(II)Z"⟩, 13), (⟨"GroupCommitsModel", "isLate", "()Z"⟩, 13), (⟨"GroupCommitsModel", "ofGroup", "(II)I"⟩, 13)]
theorem lw_r2 : ∀ q ∈ lw_privs_2, lw_okq q := List.forall_mem_cons.mpr ⟨lw_p16, List.forall_mem_cons.mpr ⟨lw_p17, List.forall_mem_cons.mpr ⟨lw_p18, List.forall_mem_cons.mpr ⟨lw_p19, List.forall_mem_cons.mpr ⟨lw_p20, List.forall_mem_cons.mpr ⟨lw_p21, List.forall_mem_cons.mpr ⟨lw_p22, List.forall_mem_cons.mpr ⟨lw_p23, List.forall_mem_cons.mpr ⟨lw_p24, List.forall_mem_cons.mpr ⟨lw_p25, List.forall_mem_cons.mpr ⟨lw_p26, List.forall_mem_cons.mpr ⟨lw_p27, List.forall_mem_cons.mpr ⟨lw_p28, List.forall_mem_cons.mpr ⟨lw_p29, List.forall_mem_cons.mpr ⟨lw_p30, List.forall_mem_cons.mpr ⟨lw_p31, fun _ h => absurd h List.not_mem_nil⟩⟩⟩⟩⟩⟩⟩⟩⟩⟩⟩⟩⟩⟩⟩⟩
theorem lw_p32 : lw_okq (⟨"GroupCommitsModel", "close", "(I)V"⟩, 13) := ⟨⟨by decide +kernel, by decide +kernel⟩, List.mem_of_getElem? (i := 724) (by decide +kernel), List.mem_of_getElem? (i := 840) (by decide +kernel), List.mem_of_getElem? (i := 841) (by decide +kernel)⟩
theorem lw_p33 : lw_okq (⟨"GroupCommitsModel", "turnMembers", "(II)I"⟩, 13) := ⟨⟨by decide +kernel, by decide +kernel⟩, List.mem_of_getElem? (i := 724) (by decide +kernel), List.mem_of_getElem? (i := 844) (by decide +kernel), List.mem_of_getElem? (i := 845) (by decide +kernel)⟩
theorem lw_p34 : lw_okq (⟨"GroupCommitsModel", "members", "(I)I"⟩, 13) := ⟨⟨by decide +kernel, by decide +kernel⟩, List.mem_of_getElem? (i := 724) (by decide +kernel), List.mem_of_getElem? (i := 848) (by decide +kernel), List.mem_of_getElem? (i := 849) (by decide +kernel)⟩
theorem lw_p35 : lw_okq (⟨"GroupCommitsModel", "goOn", "()V"⟩, 13) := ⟨⟨by decide +kernel, by decide +kernel⟩, List.mem_of_getElem? (i := 724) (by decide +kernel), List.mem_of_getElem? (i := 852) (by decide +kernel), List.mem_of_getElem? (i := 853) (by decide +kernel)⟩
theorem lw_p36 : lw_okq (⟨"GroupCommitsModel", "queuedAt", "(I)I"⟩, 13) := ⟨⟨by decide +kernel, by decide +kernel⟩, List.mem_of_getElem? (i := 724) (by decide +kernel), List.mem_of_getElem? (i := 856) (by decide +kernel), List.mem_of_getElem? (i := 857) (by decide +kernel)⟩
theorem lw_p37 : lw_okq (⟨"GroupCommitsModel", "doesFail", "(I)I"⟩, 13) := ⟨⟨by decide +kernel, by decide +kernel⟩, List.mem_of_getElem? (i := 724) (by decide +kernel), List.mem_of_getElem? (i := 864) (by decide +kernel), List.mem_of_getElem? (i := 865) (by decide +kernel)⟩
theorem lw_p38 : lw_okq (⟨"GroupCommitsModel", "takeOut", "(II)V"⟩, 13) := ⟨⟨by decide +kernel, by decide +kernel⟩, List.mem_of_getElem? (i := 724) (by decide +kernel), List.mem_of_getElem? (i := 868) (by decide +kernel), List.mem_of_getElem? (i := 869) (by decide +kernel)⟩
theorem lw_p39 : lw_okq (⟨"GroupCommitsModel", "memberAt", "(II)I"⟩, 13) := ⟨⟨by decide +kernel, by decide +kernel⟩, List.mem_of_getElem? (i := 724) (by decide +kernel), List.mem_of_getElem? (i := 872) (by decide +kernel), List.mem_of_getElem? (i := 873) (by decide +kernel)⟩
theorem lw_p40 : lw_okq (⟨"GroupCommitsModel", "canWithdraw", "(I)Z"⟩, 13) := ⟨⟨by decide +kernel, by decide +kernel⟩, List.mem_of_getElem? (i := 724) (by decide +kernel), List.mem_of_getElem? (i := 880) (by decide +kernel), List.mem_of_getElem? (i := 881) (by decide +kernel)⟩
theorem lw_p41 : lw_okq (⟨"GroupCommitsModel", "doesWithdraw", "(I)I"⟩, 13) := ⟨⟨by decide +kernel, by decide +kernel⟩, List.mem_of_getElem? (i := 724) (by decide +kernel), List.mem_of_getElem? (i := 884) (by decide +kernel), List.mem_of_getElem? (i := 885) (by decide +kernel)⟩
theorem lw_p42 : lw_okq (⟨"GroupCommitsModel", "doesCrash", "()I"⟩, 13) := ⟨⟨by decide +kernel, by decide +kernel⟩, List.mem_of_getElem? (i := 724) (by decide +kernel), List.mem_of_getElem? (i := 892) (by decide +kernel), List.mem_of_getElem? (i := 893) (by decide +kernel)⟩
theorem lw_p43 : lw_okq (⟨"GroupCommitsModel", "ticks", "(I)I"⟩, 13) := ⟨⟨by decide +kernel, by decide +kernel⟩, List.mem_of_getElem? (i := 724) (by decide +kernel), List.mem_of_getElem? (i := 900) (by decide +kernel), List.mem_of_getElem? (i := 901) (by decide +kernel)⟩
theorem lw_p44 : lw_okq (⟨"GroupCommitsModel", "tickOnce", "()I"⟩, 13) := ⟨⟨by decide +kernel, by decide +kernel⟩, List.mem_of_getElem? (i := 724) (by decide +kernel), List.mem_of_getElem? (i := 904) (by decide +kernel), List.mem_of_getElem? (i := 905) (by decide +kernel)⟩
theorem lw_p45 : lw_okq (⟨"GroupCommitsModel", "answerAll", "(I)I"⟩, 13) := ⟨⟨by decide +kernel, by decide +kernel⟩, List.mem_of_getElem? (i := 724) (by decide +kernel), List.mem_of_getElem? (i := 908) (by decide +kernel), List.mem_of_getElem? (i := 909) (by decide +kernel)⟩
theorem lw_p46 : lw_okq (⟨"GroupCommitsModel", "findFault", "()I"⟩, 13) := ⟨⟨by decide +kernel, by decide +kernel⟩, List.mem_of_getElem? (i := 724) (by decide +kernel), List.mem_of_getElem? (i := 934) (by decide +kernel), List.mem_of_getElem? (i := 935) (by decide +kernel)⟩
theorem lw_p47 : lw_okq (⟨"GroupCommitsModel", "readsOrder", "()Z"⟩, 13) := ⟨⟨by decide +kernel, by decide +kernel⟩, List.mem_of_getElem? (i := 724) (by decide +kernel), List.mem_of_getElem? (i := 938) (by decide +kernel), List.mem_of_getElem? (i := 939) (by decide +kernel)⟩
def lw_privs_3 : List (MethodName × Nat) := [(⟨"GroupCommitsModel", "close", "(I)V"⟩, 13), (⟨"GroupCommitsModel", "turnMembers", "(II)I"⟩, 13), (⟨"GroupCommitsModel", "members", "(I)I"⟩, 13), (⟨"GroupCommitsModel", "goOn", "()V"⟩, 13), (⟨"GroupCommitsModel", "queuedAt", "(I)I"⟩, 13), (⟨"GroupCommitsModel", "doesFail", "(I)I"⟩, 13), (⟨"GroupCommitsModel", "takeOut", "(II)V"⟩, 13), (⟨"GroupCommitsModel", "memberAt", "(II)I"⟩, 13), (⟨"GroupCommitsModel", "canWithdraw", "(I)Z"⟩, 13), (⟨"GroupCommitsModel", "doesWithdraw", "(I)I"⟩, 13), (⟨"GroupCommitsModel", "doesCrash", "()I"⟩, 13), (⟨"GroupCommitsModel", "ticks", "(I)I"⟩, 13), (⟨"GroupCommitsModel", "tickOnce", "()I"⟩, 13), (⟨"GroupCommitsModel", "answerAll", "(I)I"⟩, 13), (⟨"GroupCommitsModel", "findFault", "()I"⟩, 13), (⟨"GroupCommitsModel", "readsOrder", "()Z"⟩, 13)]
theorem lw_r3 : ∀ q ∈ lw_privs_3, lw_okq q := List.forall_mem_cons.mpr ⟨lw_p32, List.forall_mem_cons.mpr ⟨lw_p33, List.forall_mem_cons.mpr ⟨lw_p34, List.forall_mem_cons.mpr ⟨lw_p35, List.forall_mem_cons.mpr ⟨lw_p36, List.forall_mem_cons.mpr ⟨lw_p37, List.forall_mem_cons.mpr ⟨lw_p38, List.forall_mem_cons.mpr ⟨lw_p39, List.forall_mem_cons.mpr ⟨lw_p40, List.forall_mem_cons.mpr ⟨lw_p41, List.forall_mem_cons.mpr ⟨lw_p42, List.forall_mem_cons.mpr ⟨lw_p43, List.forall_mem_cons.mpr ⟨lw_p44, List.forall_mem_cons.mpr ⟨lw_p45, List.forall_mem_cons.mpr ⟨lw_p46, List.forall_mem_cons.mpr ⟨lw_p47, fun _ h => absurd h List.not_mem_nil⟩⟩⟩⟩⟩⟩⟩⟩⟩⟩⟩⟩⟩⟩⟩⟩
theorem lw_p48 : lw_okq (⟨"GroupCommitsModel", "nextCharacter", "()I"⟩, 13) := ⟨⟨by decide +kernel, by decide +kernel⟩, List.mem_of_getElem? (i := 724) (by decide +kernel), List.mem_of_getElem? (i := 942) (by decide +kernel), List.mem_of_getElem? (i := 943) (by decide +kernel)⟩
theorem lw_p49 : lw_okq (⟨"GroupCommitsModel", "readsNumber", "(II)Z"⟩, 13) := ⟨⟨by decide +kernel, by decide +kernel⟩, List.mem_of_getElem? (i := 724) (by decide +kernel), List.mem_of_getElem? (i := 946) (by decide +kernel), List.mem_of_getElem? (i := 947) (by decide +kernel)⟩
theorem lw_p50 : lw_okq (⟨"GroupCommitsModel", "readsSubmit", "()Z"⟩, 13) := ⟨⟨by decide +kernel, by decide +kernel⟩, List.mem_of_getElem? (i := 724) (by decide +kernel), List.mem_of_getElem? (i := 950) (by decide +kernel), List.mem_of_getElem? (i := 951) (by decide +kernel)⟩
theorem lw_p51 : lw_okq (⟨"GroupCommitsModel", "takes", "(I)Z"⟩, 13) := ⟨⟨by decide +kernel, by decide +kernel⟩, List.mem_of_getElem? (i := 724) (by decide +kernel), List.mem_of_getElem? (i := 954) (by decide +kernel), List.mem_of_getElem? (i := 955) (by decide +kernel)⟩
theorem lw_p52 : lw_okq (⟨"GroupCommitsModel", "doesOrder", "()Z"⟩, 13) := ⟨⟨by decide +kernel, by decide +kernel⟩, List.mem_of_getElem? (i := 724) (by decide +kernel), List.mem_of_getElem? (i := 962) (by decide +kernel), List.mem_of_getElem? (i := 963) (by decide +kernel)⟩
theorem lw_p53 : lw_okq (⟨"GroupCommitsModel", "tellsGroup", "(II)I"⟩, 13) := ⟨⟨by decide +kernel, by decide +kernel⟩, List.mem_of_getElem? (i := 724) (by decide +kernel), List.mem_of_getElem? (i := 974) (by decide +kernel), List.mem_of_getElem? (i := 975) (by decide +kernel)⟩
theorem lw_p54 : lw_okq (⟨"GroupCommitsModel", "queuedMany", "()I"⟩, 13) := ⟨⟨by decide +kernel, by decide +kernel⟩, List.mem_of_getElem? (i := 724) (by decide +kernel), List.mem_of_getElem? (i := 994) (by decide +kernel), List.mem_of_getElem? (i := 995) (by decide +kernel)⟩
theorem lw_p55 : lw_okq (⟨"GroupCommitsModel", "busyMany", "()I"⟩, 13) := ⟨⟨by decide +kernel, by decide +kernel⟩, List.mem_of_getElem? (i := 724) (by decide +kernel), List.mem_of_getElem? (i := 998) (by decide +kernel), List.mem_of_getElem? (i := 999) (by decide +kernel)⟩
theorem lw_p56 : lw_okq (⟨"GroupCommitsModel", "putAside", "()V"⟩, 13) := ⟨⟨by decide +kernel, by decide +kernel⟩, List.mem_of_getElem? (i := 724) (by decide +kernel), List.mem_of_getElem? (i := 1010) (by decide +kernel), List.mem_of_getElem? (i := 1011) (by decide +kernel)⟩
theorem lw_p57 : lw_okq (⟨"GroupCommitsModel", "ticksFor", "(I)I"⟩, 13) := ⟨⟨by decide +kernel, by decide +kernel⟩, List.mem_of_getElem? (i := 724) (by decide +kernel), List.mem_of_getElem? (i := 1014) (by decide +kernel), List.mem_of_getElem? (i := 1015) (by decide +kernel)⟩
theorem lw_p58 : lw_okq (⟨"GroupCommitsModel", "takeBack", "()V"⟩, 13) := ⟨⟨by decide +kernel, by decide +kernel⟩, List.mem_of_getElem? (i := 724) (by decide +kernel), List.mem_of_getElem? (i := 1018) (by decide +kernel), List.mem_of_getElem? (i := 1019) (by decide +kernel)⟩
theorem lw_p59 : lw_okq (⟨"GroupCommitsModel", "lowestFree", "()I"⟩, 13) := ⟨⟨by decide +kernel, by decide +kernel⟩, List.mem_of_getElem? (i := 724) (by decide +kernel), List.mem_of_getElem? (i := 1026) (by decide +kernel), List.mem_of_getElem? (i := 1027) (by decide +kernel)⟩
def lw_privs_4 : List (MethodName × Nat) := [(⟨"GroupCommitsModel", "nextCharacter", "()I"⟩, 13), (⟨"GroupCommitsModel", "readsNumber", "(II)Z"⟩, 13), (⟨"GroupCommitsModel", "readsSubmit", "()Z"⟩, 13), (⟨"GroupCommitsModel", "takes", "(I)Z"⟩, 13), (⟨"GroupCommitsModel", "doesOrder", "()Z"⟩, 13), (⟨"GroupCommitsModel", "tellsGroup", "(II)I"⟩, 13), (⟨"GroupCommitsModel", "queuedMany", "()I"⟩, 13), (⟨"GroupCommitsModel", "busyMany", "()I"⟩, 13), (⟨"GroupCommitsModel", "putAside", "()V"⟩, 13), (⟨"GroupCommitsModel", "ticksFor", "(I)I"⟩, 13), (⟨"GroupCommitsModel", "takeBack", "()V"⟩, 13), (⟨"GroupCommitsModel", "lowestFree", "()I"⟩, 13)]
theorem lw_r4 : ∀ q ∈ lw_privs_4, lw_okq q := List.forall_mem_cons.mpr ⟨lw_p48, List.forall_mem_cons.mpr ⟨lw_p49, List.forall_mem_cons.mpr ⟨lw_p50, List.forall_mem_cons.mpr ⟨lw_p51, List.forall_mem_cons.mpr ⟨lw_p52, List.forall_mem_cons.mpr ⟨lw_p53, List.forall_mem_cons.mpr ⟨lw_p54, List.forall_mem_cons.mpr ⟨lw_p55, List.forall_mem_cons.mpr ⟨lw_p56, List.forall_mem_cons.mpr ⟨lw_p57, List.forall_mem_cons.mpr ⟨lw_p58, List.forall_mem_cons.mpr ⟨lw_p59, fun _ h => absurd h List.not_mem_nil⟩⟩⟩⟩⟩⟩⟩⟩⟩⟩⟩⟩
def lw_privs : List (MethodName × Nat) := lw_privs_1 ++ (lw_privs_2 ++ (lw_privs_3 ++ (lw_privs_4)))
def lw_tbl : List Cond := k2_sels lw_privs ++ tables_1
theorem lw_privs_ok : ∀ q ∈ lw_privs, lw_okq q := by
  show ∀ q ∈ lw_privs_1 ++ (lw_privs_2 ++ (lw_privs_3 ++ (lw_privs_4))), lw_okq q
  exact List.forall_mem_append.mpr ⟨lw_r1, List.forall_mem_append.mpr ⟨lw_r2, List.forall_mem_append.mpr ⟨lw_r3, lw_r4⟩⟩⟩
/-- the streams that the claim lets the run draw from -/
abbrev lw_cs : List Choice := [Jvm.Choice.named "NaN.bits"]
theorem lw_bits : nanBits ∈ lw_cs := by first | decide | exact List.mem_cons_self | simp [lw_cs, nanBits]
end
section
def RX0 : String := "GroupCommits$Commits"
def TX0 : u_T := fun k => match k with
  | 0 => ("GroupCommits$Commits", "clients", "[I", true)
  | 1 => ("GroupCommits$Commits", "records", "[I", true)
  | 2 => ("GroupCommits$Commits", "urgent", "[Z", true)
  | 3 => ("GroupCommits$Commits", "states", "[I", true)
  | 4 => ("GroupCommits$Commits", "submitTimes", "[I", true)
  | 5 => ("GroupCommits$Commits", "answerTimes", "[I", true)
  | 6 => ("GroupCommits$Commits", "groups", "[I", true)
  | 7 => ("GroupCommits$Commits", "inGroup", "[Z", true)
  | _ => ("GroupCommits$Commits", "size", "I", false)
def tyX0 : Nat → FieldType := fun k => match k with
  | 0 => .array .int
  | 1 => .array .int
  | 2 => .array .boolean
  | 3 => .array .int
  | 4 => .array .int
  | 5 => .array .int
  | 6 => .array .int
  | 7 => .array .boolean
  | _ => .int
theorem nmX0 : ∀ a, a < 9 → ∀ b, b < 9 → a ≠ b → (TX0 a).2.1 ≠ (TX0 b).2.1 := by decide +kernel
theorem tyX0_ok : ∀ k, k < 9 → parseFieldDescriptor (TX0 k).2.2.1 = some (tyX0 k) := by decide +kernel
abbrev cX0_init : ByteArray := prog_2_method_1_code
def yX0_init : MethodName := ⟨RX0, "<init>", "()V"⟩
abbrev cX0_copyFrom : ByteArray := prog_2_method_2_code
def yX0_copyFrom : MethodName := ⟨RX0, "copyFrom", "(LGroupCommits$Commits;)V"⟩
abbrev cX0_has : ByteArray := prog_2_method_3_code
def yX0_has : MethodName := ⟨RX0, "has", "(I)Z"⟩
abbrev cX0_isFull : ByteArray := prog_2_method_4_code
def yX0_isFull : MethodName := ⟨RX0, "isFull", "()Z"⟩
abbrev cX0_add : ByteArray := prog_2_method_5_code
def yX0_add : MethodName := ⟨RX0, "add", "(IIZII)I"⟩
abbrev cX0_clientOf : ByteArray := prog_2_method_6_code
def yX0_clientOf : MethodName := ⟨RX0, "clientOf", "(I)I"⟩
abbrev cX0_recordsOf : ByteArray := prog_2_method_7_code
def yX0_recordsOf : MethodName := ⟨RX0, "recordsOf", "(I)I"⟩
abbrev cX0_isUrgent : ByteArray := prog_2_method_8_code
def yX0_isUrgent : MethodName := ⟨RX0, "isUrgent", "(I)Z"⟩
abbrev cX0_stateOf : ByteArray := prog_2_method_9_code
def yX0_stateOf : MethodName := ⟨RX0, "stateOf", "(I)I"⟩
abbrev cX0_setState : ByteArray := prog_2_method_10_code
def yX0_setState : MethodName := ⟨RX0, "setState", "(II)V"⟩
abbrev cX0_submitTimeOf : ByteArray := prog_2_method_11_code
def yX0_submitTimeOf : MethodName := ⟨RX0, "submitTimeOf", "(I)I"⟩
abbrev cX0_answerTimeOf : ByteArray := prog_2_method_12_code
def yX0_answerTimeOf : MethodName := ⟨RX0, "answerTimeOf", "(I)I"⟩
abbrev cX0_answer : ByteArray := prog_2_method_13_code
def yX0_answer : MethodName := ⟨RX0, "answer", "(II)V"⟩
abbrev cX0_groupOf : ByteArray := prog_2_method_14_code
def yX0_groupOf : MethodName := ⟨RX0, "groupOf", "(I)I"⟩
abbrev cX0_leaveGroup : ByteArray := prog_2_method_15_code
def yX0_leaveGroup : MethodName := ⟨RX0, "leaveGroup", "(I)V"⟩
abbrev cX0_memberAt : ByteArray := prog_2_method_16_code
def yX0_memberAt : MethodName := ⟨RX0, "memberAt", "(II)I"⟩
abbrev cX0_moveMembers : ByteArray := prog_2_method_17_code
def yX0_moveMembers : MethodName := ⟨RX0, "moveMembers", "(III)V"⟩
def RX1 : String := "GroupCommits$Groups"
def TX1 : u_T := fun k => match k with
  | 0 => ("GroupCommits$Groups", "states", "[I", true)
  | 1 => ("GroupCommits$Groups", "members", "[I", true)
  | 2 => ("GroupCommits$Groups", "records", "[I", true)
  | 3 => ("GroupCommits$Groups", "reasons", "[I", true)
  | _ => ("GroupCommits$Groups", "size", "I", false)
def tyX1 : Nat → FieldType := fun k => match k with
  | 0 => .array .int
  | 1 => .array .int
  | 2 => .array .int
  | 3 => .array .int
  | _ => .int
theorem nmX1 : ∀ a, a < 5 → ∀ b, b < 5 → a ≠ b → (TX1 a).2.1 ≠ (TX1 b).2.1 := by decide +kernel
theorem tyX1_ok : ∀ k, k < 5 → parseFieldDescriptor (TX1 k).2.2.1 = some (tyX1 k) := by decide +kernel
abbrev cX1_init : ByteArray := prog_3_method_1_code
def yX1_init : MethodName := ⟨RX1, "<init>", "()V"⟩
abbrev cX1_copyFrom : ByteArray := prog_3_method_2_code
def yX1_copyFrom : MethodName := ⟨RX1, "copyFrom", "(LGroupCommits$Groups;)V"⟩
abbrev cX1_has : ByteArray := prog_3_method_3_code
def yX1_has : MethodName := ⟨RX1, "has", "(I)Z"⟩
abbrev cX1_begin : ByteArray := prog_3_method_4_code
def yX1_begin : MethodName := ⟨RX1, "begin", "()I"⟩
abbrev cX1_join : ByteArray := prog_3_method_5_code
def yX1_join : MethodName := ⟨RX1, "join", "(II)V"⟩
abbrev cX1_leave : ByteArray := prog_3_method_6_code
def yX1_leave : MethodName := ⟨RX1, "leave", "(II)V"⟩
abbrev cX1_close : ByteArray := prog_3_method_7_code
def yX1_close : MethodName := ⟨RX1, "close", "(II)V"⟩
abbrev cX1_setState : ByteArray := prog_3_method_8_code
def yX1_setState : MethodName := ⟨RX1, "setState", "(II)V"⟩
abbrev cX1_stateOf : ByteArray := prog_3_method_9_code
def yX1_stateOf : MethodName := ⟨RX1, "stateOf", "(I)I"⟩
abbrev cX1_membersOf : ByteArray := prog_3_method_10_code
def yX1_membersOf : MethodName := ⟨RX1, "membersOf", "(I)I"⟩
abbrev cX1_recordsOf : ByteArray := prog_3_method_11_code
def yX1_recordsOf : MethodName := ⟨RX1, "recordsOf", "(I)I"⟩
abbrev cX1_reasonOf : ByteArray := prog_3_method_12_code
def yX1_reasonOf : MethodName := ⟨RX1, "reasonOf", "(I)I"⟩
def RX2 : String := "GroupCommits$History"
def TX2 : u_T := fun k => match k with
  | 0 => ("GroupCommits$History", "states", "[LGroupCommits$Log;", true)
  | 1 => ("GroupCommits$History", "oldest", "I", false)
  | _ => ("GroupCommits$History", "size", "I", false)
def tyX2 : Nat → FieldType := fun k => match k with
  | 0 => .array (.object "GroupCommits$Log")
  | 1 => .int
  | _ => .int
theorem nmX2 : ∀ a, a < 3 → ∀ b, b < 3 → a ≠ b → (TX2 a).2.1 ≠ (TX2 b).2.1 := by decide +kernel
theorem tyX2_ok : ∀ k, k < 3 → parseFieldDescriptor (TX2 k).2.2.1 = some (tyX2 k) := by decide +kernel
abbrev cX2_init : ByteArray := prog_4_method_1_code
def yX2_init : MethodName := ⟨RX2, "<init>", "()V"⟩
abbrev cX2_size : ByteArray := prog_4_method_2_code
def yX2_size : MethodName := ⟨RX2, "size", "()I"⟩
abbrev cX2_push : ByteArray := prog_4_method_3_code
def yX2_push : MethodName := ⟨RX2, "push", "(LGroupCommits$Log;)V"⟩
abbrev cX2_popInto : ByteArray := prog_4_method_4_code
def yX2_popInto : MethodName := ⟨RX2, "popInto", "(LGroupCommits$Log;)I"⟩
def RX3 : String := "GroupCommits$Log"
def TX3 : u_T := fun k => match k with
  | 0 => ("GroupCommits$Log", "commits", "LGroupCommits$Commits;", true)
  | 1 => ("GroupCommits$Log", "groups", "LGroupCommits$Groups;", true)
  | 2 => ("GroupCommits$Log", "queue", "LGroupCommits$Queue;", true)
  | 3 => ("GroupCommits$Log", "settings", "LGroupCommits$Settings;", true)
  | 4 => ("GroupCommits$Log", "totals", "[I", true)
  | 5 => ("GroupCommits$Log", "openCommits", "[I", true)
  | 6 => ("GroupCommits$Log", "time", "I", false)
  | 7 => ("GroupCommits$Log", "wait", "I", false)
  | 8 => ("GroupCommits$Log", "gathering", "I", false)
  | 9 => ("GroupCommits$Log", "gatheringEnd", "I", false)
  | 10 => ("GroupCommits$Log", "writing", "I", false)
  | _ => ("GroupCommits$Log", "ticksLeft", "I", false)
def tyX3 : Nat → FieldType := fun k => match k with
  | 0 => .object "GroupCommits$Commits"
  | 1 => .object "GroupCommits$Groups"
  | 2 => .object "GroupCommits$Queue"
  | 3 => .object "GroupCommits$Settings"
  | 4 => .array .int
  | 5 => .array .int
  | 6 => .int
  | 7 => .int
  | 8 => .int
  | 9 => .int
  | 10 => .int
  | _ => .int
theorem nmX3 : ∀ a, a < 12 → ∀ b, b < 12 → a ≠ b → (TX3 a).2.1 ≠ (TX3 b).2.1 := by decide +kernel
theorem tyX3_ok : ∀ k, k < 12 → parseFieldDescriptor (TX3 k).2.2.1 = some (tyX3 k) := by decide +kernel
abbrev cX3_init : ByteArray := prog_5_method_1_code
def yX3_init : MethodName := ⟨RX3, "<init>", "()V"⟩
abbrev cX3_copyFrom : ByteArray := prog_5_method_2_code
def yX3_copyFrom : MethodName := ⟨RX3, "copyFrom", "(LGroupCommits$Log;)V"⟩
abbrev cX3_isClient : ByteArray := prog_5_method_3_code
def yX3_isClient : MethodName := ⟨RX3, "isClient", "(I)Z"⟩
abbrev cX3_openCommitOf : ByteArray := prog_5_method_4_code
def yX3_openCommitOf : MethodName := ⟨RX3, "openCommitOf", "(I)I"⟩
abbrev cX3_setOpenCommit : ByteArray := prog_5_method_5_code
def yX3_setOpenCommit : MethodName := ⟨RX3, "setOpenCommit", "(II)V"⟩
abbrev cX3_busyClients : ByteArray := prog_5_method_6_code
def yX3_busyClients : MethodName := ⟨RX3, "busyClients", "()I"⟩
abbrev cX3_isRecords : ByteArray := prog_5_method_7_code
def yX3_isRecords : MethodName := ⟨RX3, "isRecords", "(I)Z"⟩
abbrev cX3_refusalToEnter : ByteArray := prog_5_method_8_code
def yX3_refusalToEnter : MethodName := ⟨RX3, "refusalToEnter", "(II)I"⟩
abbrev cX3_refusalOfAnyEntry : ByteArray := prog_5_method_9_code
def yX3_refusalOfAnyEntry : MethodName := ⟨RX3, "refusalOfAnyEntry", "(I)I"⟩
abbrev cX3_enter : ByteArray := prog_5_method_10_code
def yX3_enter : MethodName := ⟨RX3, "enter", "(IIZ)I"⟩
abbrev cX3_loseClient : ByteArray := prog_5_method_11_code
def yX3_loseClient : MethodName := ⟨RX3, "loseClient", "(I)I"⟩
abbrev cX3_refusalToTakeBack : ByteArray := prog_5_method_12_code
def yX3_refusalToTakeBack : MethodName := ⟨RX3, "refusalToTakeBack", "(I)I"⟩
abbrev cX3_takeBack : ByteArray := prog_5_method_13_code
def yX3_takeBack : MethodName := ⟨RX3, "takeBack", "(I)I"⟩
abbrev cX3_endCommit : ByteArray := prog_5_method_14_code
def yX3_endCommit : MethodName := ⟨RX3, "endCommit", "(II)V"⟩
abbrev cX3_beginGroup : ByteArray := prog_5_method_15_code
def yX3_beginGroup : MethodName := ⟨RX3, "beginGroup", "()V"⟩
abbrev cX3_reasonToClose : ByteArray := prog_5_method_16_code
def yX3_reasonToClose : MethodName := ⟨RX3, "reasonToClose", "(ZII)I"⟩
abbrev cX3_closeGathering : ByteArray := prog_5_method_17_code
def yX3_closeGathering : MethodName := ⟨RX3, "closeGathering", "(I)V"⟩
abbrev cX3_learnWait : ByteArray := prog_5_method_18_code
def yX3_learnWait : MethodName := ⟨RX3, "learnWait", "(I)V"⟩
abbrev cX3_leaveGathering : ByteArray := prog_5_method_19_code
def yX3_leaveGathering : MethodName := ⟨RX3, "leaveGathering", "(I)V"⟩
abbrev cX3_ticksToWrite : ByteArray := prog_5_method_20_code
def yX3_ticksToWrite : MethodName := ⟨RX3, "ticksToWrite", "(I)I"⟩
abbrev cX3_startWriting : ByteArray := prog_5_method_21_code
def yX3_startWriting : MethodName := ⟨RX3, "startWriting", "()V"⟩
abbrev cX3_time : ByteArray := prog_5_method_22_code
def yX3_time : MethodName := ⟨RX3, "time", "()I"⟩
abbrev cX3_change : ByteArray := prog_5_method_23_code
def yX3_change : MethodName := ⟨RX3, "change", "(II)I"⟩
abbrev cX3_passTicks : ByteArray := prog_5_method_24_code
def yX3_passTicks : MethodName := ⟨RX3, "passTicks", "(I)I"⟩
abbrev cX3_passTick : ByteArray := prog_5_method_25_code
def yX3_passTick : MethodName := ⟨RX3, "passTick", "()I"⟩
abbrev cX3_finishWriting : ByteArray := prog_5_method_26_code
def yX3_finishWriting : MethodName := ⟨RX3, "finishWriting", "()I"⟩
abbrev cX3_loseAll : ByteArray := prog_5_method_27_code
def yX3_loseAll : MethodName := ⟨RX3, "loseAll", "()I"⟩
abbrev cX3_dropGroups : ByteArray := prog_5_method_28_code
def yX3_dropGroups : MethodName := ⟨RX3, "dropGroups", "()V"⟩
abbrev cX3_aboutCommit : ByteArray := prog_5_method_29_code
def yX3_aboutCommit : MethodName := ⟨RX3, "aboutCommit", "(II)I"⟩
abbrev cX3_aboutGroup : ByteArray := prog_5_method_30_code
def yX3_aboutGroup : MethodName := ⟨RX3, "aboutGroup", "(II)I"⟩
abbrev cX3_memberAt : ByteArray := prog_5_method_31_code
def yX3_memberAt : MethodName := ⟨RX3, "memberAt", "(II)I"⟩
abbrev cX3_queuedAt : ByteArray := prog_5_method_32_code
def yX3_queuedAt : MethodName := ⟨RX3, "queuedAt", "(I)I"⟩
abbrev cX3_aboutNow : ByteArray := prog_5_method_33_code
def yX3_aboutNow : MethodName := ⟨RX3, "aboutNow", "(I)I"⟩
abbrev cX3_totalOf : ByteArray := prog_5_method_34_code
def yX3_totalOf : MethodName := ⟨RX3, "totalOf", "(I)I"⟩
abbrev cX3_meanTicks : ByteArray := prog_5_method_35_code
def yX3_meanTicks : MethodName := ⟨RX3, "meanTicks", "()D"⟩
abbrev cX3_ticksToAnswer : ByteArray := prog_5_method_36_code
def yX3_ticksToAnswer : MethodName := ⟨RX3, "ticksToAnswer", "(I)I"⟩
abbrev cX3_ticksToWritten : ByteArray := prog_5_method_37_code
def yX3_ticksToWritten : MethodName := ⟨RX3, "ticksToWritten", "(I)I"⟩
abbrev cX3_ticksToEndOfWriting : ByteArray := prog_5_method_38_code
def yX3_ticksToEndOfWriting : MethodName := ⟨RX3, "ticksToEndOfWriting", "()I"⟩
abbrev cX3_ticksToFreeDisk : ByteArray := prog_5_method_39_code
def yX3_ticksToFreeDisk : MethodName := ⟨RX3, "ticksToFreeDisk", "()I"⟩
abbrev cX3_ticksIfEntered : ByteArray := prog_5_method_40_code
def yX3_ticksIfEntered : MethodName := ⟨RX3, "ticksIfEntered", "(IZ)I"⟩
abbrev cX3_ticksToIdle : ByteArray := prog_5_method_41_code
def yX3_ticksToIdle : MethodName := ⟨RX3, "ticksToIdle", "()I"⟩
def RX4 : String := "GroupCommits$Queue"
def TX4 : u_T := fun k => match k with
  | 0 => ("GroupCommits$Queue", "row", "[I", true)
  | 1 => ("GroupCommits$Queue", "first", "I", false)
  | _ => ("GroupCommits$Queue", "end", "I", false)
def tyX4 : Nat → FieldType := fun k => match k with
  | 0 => .array .int
  | 1 => .int
  | _ => .int
theorem nmX4 : ∀ a, a < 3 → ∀ b, b < 3 → a ≠ b → (TX4 a).2.1 ≠ (TX4 b).2.1 := by decide +kernel
theorem tyX4_ok : ∀ k, k < 3 → parseFieldDescriptor (TX4 k).2.2.1 = some (tyX4 k) := by decide +kernel
abbrev cX4_init : ByteArray := prog_6_method_1_code
def yX4_init : MethodName := ⟨RX4, "<init>", "()V"⟩
abbrev cX4_copyFrom : ByteArray := prog_6_method_2_code
def yX4_copyFrom : MethodName := ⟨RX4, "copyFrom", "(LGroupCommits$Queue;)V"⟩
abbrev cX4_size : ByteArray := prog_6_method_3_code
def yX4_size : MethodName := ⟨RX4, "size", "()I"⟩
abbrev cX4_add : ByteArray := prog_6_method_4_code
def yX4_add : MethodName := ⟨RX4, "add", "(I)V"⟩
abbrev cX4_at : ByteArray := prog_6_method_5_code
def yX4_at : MethodName := ⟨RX4, "at", "(I)I"⟩
abbrev cX4_takeFirst : ByteArray := prog_6_method_6_code
def yX4_takeFirst : MethodName := ⟨RX4, "takeFirst", "()I"⟩
def RX5 : String := "GroupCommits$Script"
def TX5 : u_T := fun k => match k with
  | 0 => ("GroupCommits$Script", "characters", "[C", true)
  | 1 => ("GroupCommits$Script", "length", "I", false)
  | 2 => ("GroupCommits$Script", "cursor", "I", false)
  | 3 => ("GroupCommits$Script", "kind", "I", false)
  | 4 => ("GroupCommits$Script", "number", "I", false)
  | 5 => ("GroupCommits$Script", "records", "I", false)
  | _ => ("GroupCommits$Script", "isUrgent", "Z", false)
def tyX5 : Nat → FieldType := fun k => match k with
  | 0 => .array .char
  | 1 => .int
  | 2 => .int
  | 3 => .int
  | 4 => .int
  | 5 => .int
  | _ => .boolean
theorem nmX5 : ∀ a, a < 7 → ∀ b, b < 7 → a ≠ b → (TX5 a).2.1 ≠ (TX5 b).2.1 := by decide +kernel
theorem tyX5_ok : ∀ k, k < 7 → parseFieldDescriptor (TX5 k).2.2.1 = some (tyX5 k) := by decide +kernel
abbrev cX5_init : ByteArray := prog_7_method_1_code
def yX5_init : MethodName := ⟨RX5, "<init>", "()V"⟩
abbrev cX5_length : ByteArray := prog_7_method_2_code
def yX5_length : MethodName := ⟨RX5, "length", "()I"⟩
abbrev cX5_add : ByteArray := prog_7_method_3_code
def yX5_add : MethodName := ⟨RX5, "add", "(I)I"⟩
abbrev cX5_empty : ByteArray := prog_7_method_4_code
def yX5_empty : MethodName := ⟨RX5, "empty", "()I"⟩
abbrev cX5_characterAt : ByteArray := prog_7_method_5_code
def yX5_characterAt : MethodName := ⟨RX5, "characterAt", "(I)C"⟩
abbrev cX5_firstFault : ByteArray := prog_7_method_6_code
def yX5_firstFault : MethodName := ⟨RX5, "firstFault", "()I"⟩
abbrev cX5_isComplete : ByteArray := prog_7_method_7_code
def yX5_isComplete : MethodName := ⟨RX5, "isComplete", "(I)Z"⟩
abbrev cX5_after : ByteArray := prog_7_method_8_code
def yX5_after : MethodName := ⟨RX5, "after", "(IC)I"⟩
abbrev cX5_afterFirst : ByteArray := prog_7_method_9_code
def yX5_afterFirst : MethodName := ⟨RX5, "afterFirst", "(C)I"⟩
abbrev cX5_isDigit : ByteArray := prog_7_method_10_code
def yX5_isDigit : MethodName := ⟨RX5, "isDigit", "(C)Z"⟩
abbrev cX5_orders : ByteArray := prog_7_method_11_code
def yX5_orders : MethodName := ⟨RX5, "orders", "()I"⟩
abbrev cX5_goToStart : ByteArray := prog_7_method_12_code
def yX5_goToStart : MethodName := ⟨RX5, "goToStart", "()V"⟩
abbrev cX5_readOrder : ByteArray := prog_7_method_13_code
def yX5_readOrder : MethodName := ⟨RX5, "readOrder", "()V"⟩
abbrev cX5_kindOf : ByteArray := prog_7_method_14_code
def yX5_kindOf : MethodName := ⟨RX5, "kindOf", "(C)I"⟩
abbrev cX5_readNumber : ByteArray := prog_7_method_15_code
def yX5_readNumber : MethodName := ⟨RX5, "readNumber", "()I"⟩
abbrev cX5_readRecords : ByteArray := prog_7_method_16_code
def yX5_readRecords : MethodName := ⟨RX5, "readRecords", "()V"⟩
abbrev cX5_kind : ByteArray := prog_7_method_17_code
def yX5_kind : MethodName := ⟨RX5, "kind", "()I"⟩
abbrev cX5_number : ByteArray := prog_7_method_18_code
def yX5_number : MethodName := ⟨RX5, "number", "()I"⟩
abbrev cX5_records : ByteArray := prog_7_method_19_code
def yX5_records : MethodName := ⟨RX5, "records", "()I"⟩
abbrev cX5_isUrgent : ByteArray := prog_7_method_20_code
def yX5_isUrgent : MethodName := ⟨RX5, "isUrgent", "()Z"⟩
def RX6 : String := "GroupCommits$Settings"
def TX6 : u_T := fun k => match k with
  | _ => ("GroupCommits$Settings", "values", "[I", true)
def tyX6 : Nat → FieldType := fun k => match k with
  | _ => .array .int
theorem nmX6 : ∀ a, a < 1 → ∀ b, b < 1 → a ≠ b → (TX6 a).2.1 ≠ (TX6 b).2.1 := by decide +kernel
theorem tyX6_ok : ∀ k, k < 1 → parseFieldDescriptor (TX6 k).2.2.1 = some (tyX6 k) := by decide +kernel
abbrev cX6_init : ByteArray := prog_8_method_1_code
def yX6_init : MethodName := ⟨RX6, "<init>", "()V"⟩
abbrev cX6_copyFrom : ByteArray := prog_8_method_2_code
def yX6_copyFrom : MethodName := ⟨RX6, "copyFrom", "(LGroupCommits$Settings;)V"⟩
abbrev cX6_refusal : ByteArray := prog_8_method_3_code
def yX6_refusal : MethodName := ⟨RX6, "refusal", "(II)I"⟩
abbrev cX6_valueOf : ByteArray := prog_8_method_4_code
def yX6_valueOf : MethodName := ⟨RX6, "valueOf", "(I)I"⟩
abbrev cX6_change : ByteArray := prog_8_method_5_code
def yX6_change : MethodName := ⟨RX6, "change", "(II)I"⟩
def RX7 : String := "GroupCommits"
def TX7 : u_T := fun k => match k with
  | 0 => ("GroupCommits", "now", "LGroupCommits$Log;", true)
  | 1 => ("GroupCommits", "snapshot", "LGroupCommits$Log;", true)
  | 2 => ("GroupCommits", "history", "LGroupCommits$History;", true)
  | 3 => ("GroupCommits", "script", "LGroupCommits$Script;", true)
  | _ => ("GroupCommits", "hasSnapshot", "Z", false)
def tyX7 : Nat → FieldType := fun k => match k with
  | 0 => .object "GroupCommits$Log"
  | 1 => .object "GroupCommits$Log"
  | 2 => .object "GroupCommits$History"
  | 3 => .object "GroupCommits$Script"
  | _ => .boolean
theorem nmX7 : ∀ a, a < 5 → ∀ b, b < 5 → a ≠ b → (TX7 a).2.1 ≠ (TX7 b).2.1 := by decide +kernel
theorem tyX7_ok : ∀ k, k < 5 → parseFieldDescriptor (TX7 k).2.2.1 = some (tyX7 k) := by decide +kernel
abbrev cX7_init : ByteArray := prog_1_method_1_code
def yX7_init : MethodName := ⟨RX7, "<init>", "()V"⟩
abbrev cX7_submit : ByteArray := prog_1_method_2_code
def yX7_submit : MethodName := ⟨RX7, "submit", "(IIZ)I"⟩
abbrev cX7_fail : ByteArray := prog_1_method_3_code
def yX7_fail : MethodName := ⟨RX7, "fail", "(I)I"⟩
abbrev cX7_withdraw : ByteArray := prog_1_method_4_code
def yX7_withdraw : MethodName := ⟨RX7, "withdraw", "(I)I"⟩
abbrev cX7_crash : ByteArray := prog_1_method_5_code
def yX7_crash : MethodName := ⟨RX7, "crash", "()I"⟩
abbrev cX7_tick : ByteArray := prog_1_method_6_code
def yX7_tick : MethodName := ⟨RX7, "tick", "(I)I"⟩
abbrev cX7_set : ByteArray := prog_1_method_7_code
def yX7_set : MethodName := ⟨RX7, "set", "(II)I"⟩
abbrev cX7_append : ByteArray := prog_1_method_8_code
def yX7_append : MethodName := ⟨RX7, "append", "(I)I"⟩
abbrev cX7_clearText : ByteArray := prog_1_method_9_code
def yX7_clearText : MethodName := ⟨RX7, "clearText", "()I"⟩
abbrev cX7_fault : ByteArray := prog_1_method_10_code
def yX7_fault : MethodName := ⟨RX7, "fault", "()I"⟩
abbrev cX7_run : ByteArray := prog_1_method_11_code
def yX7_run : MethodName := ⟨RX7, "run", "()I"⟩
abbrev cX7_carryOutOrder : ByteArray := prog_1_method_12_code
def yX7_carryOutOrder : MethodName := ⟨RX7, "carryOutOrder", "()Z"⟩
abbrev cX7_undo : ByteArray := prog_1_method_13_code
def yX7_undo : MethodName := ⟨RX7, "undo", "()I"⟩
abbrev cX7_save : ByteArray := prog_1_method_14_code
def yX7_save : MethodName := ⟨RX7, "save", "()I"⟩
abbrev cX7_restore : ByteArray := prog_1_method_15_code
def yX7_restore : MethodName := ⟨RX7, "restore", "()I"⟩
abbrev cX7_commit : ByteArray := prog_1_method_16_code
def yX7_commit : MethodName := ⟨RX7, "commit", "(II)I"⟩
abbrev cX7_group : ByteArray := prog_1_method_17_code
def yX7_group : MethodName := ⟨RX7, "group", "(II)I"⟩
abbrev cX7_member : ByteArray := prog_1_method_18_code
def yX7_member : MethodName := ⟨RX7, "member", "(II)I"⟩
abbrev cX7_open : ByteArray := prog_1_method_19_code
def yX7_open : MethodName := ⟨RX7, "open", "(I)I"⟩
abbrev cX7_queued : ByteArray := prog_1_method_20_code
def yX7_queued : MethodName := ⟨RX7, "queued", "(I)I"⟩
abbrev cX7_count : ByteArray := prog_1_method_21_code
def yX7_count : MethodName := ⟨RX7, "count", "(I)I"⟩
abbrev cX7_total : ByteArray := prog_1_method_22_code
def yX7_total : MethodName := ⟨RX7, "total", "(I)I"⟩
abbrev cX7_answeredIn : ByteArray := prog_1_method_23_code
def yX7_answeredIn : MethodName := ⟨RX7, "answeredIn", "(I)I"⟩
abbrev cX7_ifSubmitted : ByteArray := prog_1_method_24_code
def yX7_ifSubmitted : MethodName := ⟨RX7, "ifSubmitted", "(IZ)I"⟩
abbrev cX7_idleIn : ByteArray := prog_1_method_25_code
def yX7_idleIn : MethodName := ⟨RX7, "idleIn", "()I"⟩
abbrev cX7_mean : ByteArray := prog_1_method_26_code
def yX7_mean : MethodName := ⟨RX7, "mean", "()D"⟩
def RX8 : String := "GroupCommitsModel"
def TX8 : u_T := fun k => match k with
  | 0 => ("GroupCommitsModel", "state", "[I", true)
  | 1 => ("GroupCommitsModel", "spare", "[I", true)
  | 2 => ("GroupCommitsModel", "history", "[I", true)
  | 3 => ("GroupCommitsModel", "states", "I", false)
  | 4 => ("GroupCommitsModel", "snapshot", "[I", true)
  | 5 => ("GroupCommitsModel", "hasSnapshot", "Z", false)
  | 6 => ("GroupCommitsModel", "text", "[I", true)
  | 7 => ("GroupCommitsModel", "length", "I", false)
  | 8 => ("GroupCommitsModel", "at", "I", false)
  | 9 => ("GroupCommitsModel", "sign", "I", false)
  | 10 => ("GroupCommitsModel", "first", "I", false)
  | 11 => ("GroupCommitsModel", "second", "I", false)
  | _ => ("GroupCommitsModel", "isPressing", "Z", false)
def tyX8 : Nat → FieldType := fun k => match k with
  | 0 => .array .int
  | 1 => .array .int
  | 2 => .array .int
  | 3 => .int
  | 4 => .array .int
  | 5 => .boolean
  | 6 => .array .int
  | 7 => .int
  | 8 => .int
  | 9 => .int
  | 10 => .int
  | 11 => .int
  | _ => .boolean
theorem nmX8 : ∀ a, a < 13 → ∀ b, b < 13 → a ≠ b → (TX8 a).2.1 ≠ (TX8 b).2.1 := by decide +kernel
theorem tyX8_ok : ∀ k, k < 13 → parseFieldDescriptor (TX8 k).2.2.1 = some (tyX8 k) := by decide +kernel
abbrev cX8_init : ByteArray := prog_10_method_1_code
def yX8_init : MethodName := ⟨RX8, "<init>", "()V"⟩
abbrev cX8_within : ByteArray := prog_10_method_2_code
def yX8_within : MethodName := ⟨RX8, "within", "(III)Z"⟩
abbrev cX8_isClient : ByteArray := prog_10_method_3_code
def yX8_isClient : MethodName := ⟨RX8, "isClient", "(I)Z"⟩
abbrev cX8_of : ByteArray := prog_10_method_4_code
def yX8_of : MethodName := ⟨RX8, "of", "(II)I"⟩
abbrev cX8_setOf : ByteArray := prog_10_method_5_code
def yX8_setOf : MethodName := ⟨RX8, "setOf", "(III)V"⟩
abbrev cX8_ofGroup : ByteArray := prog_10_method_6_code
def yX8_ofGroup : MethodName := ⟨RX8, "ofGroup", "(II)I"⟩
abbrev cX8_setGroup : ByteArray := prog_10_method_7_code
def yX8_setGroup : MethodName := ⟨RX8, "setGroup", "(III)V"⟩
abbrev cX8_record : ByteArray := prog_10_method_8_code
def yX8_record : MethodName := ⟨RX8, "record", "()V"⟩
abbrev cX8_undo : ByteArray := prog_10_method_9_code
def yX8_undo : MethodName := ⟨RX8, "undo", "()I"⟩
abbrev cX8_save : ByteArray := prog_10_method_10_code
def yX8_save : MethodName := ⟨RX8, "save", "()I"⟩
abbrev cX8_restore : ByteArray := prog_10_method_11_code
def yX8_restore : MethodName := ⟨RX8, "restore", "()I"⟩
abbrev cX8_putAside : ByteArray := prog_10_method_12_code
def yX8_putAside : MethodName := ⟨RX8, "putAside", "()V"⟩
abbrev cX8_takeBack : ByteArray := prog_10_method_13_code
def yX8_takeBack : MethodName := ⟨RX8, "takeBack", "()V"⟩
abbrev cX8_isIn : ByteArray := prog_10_method_14_code
def yX8_isIn : MethodName := ⟨RX8, "isIn", "(II)Z"⟩
abbrev cX8_members : ByteArray := prog_10_method_15_code
def yX8_members : MethodName := ⟨RX8, "members", "(I)I"⟩
abbrev cX8_recordsOf : ByteArray := prog_10_method_16_code
def yX8_recordsOf : MethodName := ⟨RX8, "recordsOf", "(I)I"⟩
abbrev cX8_memberAt : ByteArray := prog_10_method_17_code
def yX8_memberAt : MethodName := ⟨RX8, "memberAt", "(II)I"⟩
abbrev cX8_turnMembers : ByteArray := prog_10_method_18_code
def yX8_turnMembers : MethodName := ⟨RX8, "turnMembers", "(II)I"⟩
abbrev cX8_queuedAt : ByteArray := prog_10_method_19_code
def yX8_queuedAt : MethodName := ⟨RX8, "queuedAt", "(I)I"⟩
abbrev cX8_goOn : ByteArray := prog_10_method_20_code
def yX8_goOn : MethodName := ⟨RX8, "goOn", "()V"⟩
abbrev cX8_close : ByteArray := prog_10_method_21_code
def yX8_close : MethodName := ⟨RX8, "close", "(I)V"⟩
abbrev cX8_isLate : ByteArray := prog_10_method_22_code
def yX8_isLate : MethodName := ⟨RX8, "isLate", "()Z"⟩
abbrev cX8_begin : ByteArray := prog_10_method_23_code
def yX8_begin : MethodName := ⟨RX8, "begin", "()I"⟩
abbrev cX8_answerAll : ByteArray := prog_10_method_24_code
def yX8_answerAll : MethodName := ⟨RX8, "answerAll", "(I)I"⟩
abbrev cX8_tickOnce : ByteArray := prog_10_method_25_code
def yX8_tickOnce : MethodName := ⟨RX8, "tickOnce", "()I"⟩
abbrev cX8_ticks : ByteArray := prog_10_method_26_code
def yX8_ticks : MethodName := ⟨RX8, "ticks", "(I)I"⟩
abbrev cX8_openOf : ByteArray := prog_10_method_27_code
def yX8_openOf : MethodName := ⟨RX8, "openOf", "(I)I"⟩
abbrev cX8_takeOut : ByteArray := prog_10_method_28_code
def yX8_takeOut : MethodName := ⟨RX8, "takeOut", "(II)V"⟩
abbrev cX8_whyNotSubmitted : ByteArray := prog_10_method_29_code
def yX8_whyNotSubmitted : MethodName := ⟨RX8, "whyNotSubmitted", "(II)I"⟩
abbrev cX8_doesSubmit : ByteArray := prog_10_method_30_code
def yX8_doesSubmit : MethodName := ⟨RX8, "doesSubmit", "(IIZ)I"⟩
abbrev cX8_doesFail : ByteArray := prog_10_method_31_code
def yX8_doesFail : MethodName := ⟨RX8, "doesFail", "(I)I"⟩
abbrev cX8_canWithdraw : ByteArray := prog_10_method_32_code
def yX8_canWithdraw : MethodName := ⟨RX8, "canWithdraw", "(I)Z"⟩
abbrev cX8_doesWithdraw : ByteArray := prog_10_method_33_code
def yX8_doesWithdraw : MethodName := ⟨RX8, "doesWithdraw", "(I)I"⟩
abbrev cX8_doesCrash : ByteArray := prog_10_method_34_code
def yX8_doesCrash : MethodName := ⟨RX8, "doesCrash", "()I"⟩
abbrev cX8_submit : ByteArray := prog_10_method_35_code
def yX8_submit : MethodName := ⟨RX8, "submit", "(IIZ)I"⟩
abbrev cX8_fail : ByteArray := prog_10_method_36_code
def yX8_fail : MethodName := ⟨RX8, "fail", "(I)I"⟩
abbrev cX8_withdraw : ByteArray := prog_10_method_37_code
def yX8_withdraw : MethodName := ⟨RX8, "withdraw", "(I)I"⟩
abbrev cX8_crash : ByteArray := prog_10_method_38_code
def yX8_crash : MethodName := ⟨RX8, "crash", "()I"⟩
abbrev cX8_tick : ByteArray := prog_10_method_39_code
def yX8_tick : MethodName := ⟨RX8, "tick", "(I)I"⟩
abbrev cX8_leastOf : ByteArray := prog_10_method_40_code
def yX8_leastOf : MethodName := ⟨RX8, "leastOf", "(I)I"⟩
abbrev cX8_mostOf : ByteArray := prog_10_method_41_code
def yX8_mostOf : MethodName := ⟨RX8, "mostOf", "(I)I"⟩
abbrev cX8_set : ByteArray := prog_10_method_42_code
def yX8_set : MethodName := ⟨RX8, "set", "(II)I"⟩
abbrev cX8_append : ByteArray := prog_10_method_43_code
def yX8_append : MethodName := ⟨RX8, "append", "(I)I"⟩
abbrev cX8_clearText : ByteArray := prog_10_method_44_code
def yX8_clearText : MethodName := ⟨RX8, "clearText", "()I"⟩
abbrev cX8_nextCharacter : ByteArray := prog_10_method_45_code
def yX8_nextCharacter : MethodName := ⟨RX8, "nextCharacter", "()I"⟩
abbrev cX8_takes : ByteArray := prog_10_method_46_code
def yX8_takes : MethodName := ⟨RX8, "takes", "(I)Z"⟩
abbrev cX8_readsNumber : ByteArray := prog_10_method_47_code
def yX8_readsNumber : MethodName := ⟨RX8, "readsNumber", "(II)Z"⟩
abbrev cX8_readsSubmit : ByteArray := prog_10_method_48_code
def yX8_readsSubmit : MethodName := ⟨RX8, "readsSubmit", "()Z"⟩
abbrev cX8_readsOrder : ByteArray := prog_10_method_49_code
def yX8_readsOrder : MethodName := ⟨RX8, "readsOrder", "()Z"⟩
abbrev cX8_findFault : ByteArray := prog_10_method_50_code
def yX8_findFault : MethodName := ⟨RX8, "findFault", "()I"⟩
abbrev cX8_fault : ByteArray := prog_10_method_51_code
def yX8_fault : MethodName := ⟨RX8, "fault", "()I"⟩
abbrev cX8_doesOrder : ByteArray := prog_10_method_52_code
def yX8_doesOrder : MethodName := ⟨RX8, "doesOrder", "()Z"⟩
abbrev cX8_run : ByteArray := prog_10_method_53_code
def yX8_run : MethodName := ⟨RX8, "run", "()I"⟩
abbrev cX8_commit : ByteArray := prog_10_method_54_code
def yX8_commit : MethodName := ⟨RX8, "commit", "(II)I"⟩
abbrev cX8_tellsGroup : ByteArray := prog_10_method_55_code
def yX8_tellsGroup : MethodName := ⟨RX8, "tellsGroup", "(II)I"⟩
abbrev cX8_group : ByteArray := prog_10_method_56_code
def yX8_group : MethodName := ⟨RX8, "group", "(II)I"⟩
abbrev cX8_member : ByteArray := prog_10_method_57_code
def yX8_member : MethodName := ⟨RX8, "member", "(II)I"⟩
abbrev cX8_open : ByteArray := prog_10_method_58_code
def yX8_open : MethodName := ⟨RX8, "open", "(I)I"⟩
abbrev cX8_queued : ByteArray := prog_10_method_59_code
def yX8_queued : MethodName := ⟨RX8, "queued", "(I)I"⟩
abbrev cX8_queuedMany : ByteArray := prog_10_method_60_code
def yX8_queuedMany : MethodName := ⟨RX8, "queuedMany", "()I"⟩
abbrev cX8_busyMany : ByteArray := prog_10_method_61_code
def yX8_busyMany : MethodName := ⟨RX8, "busyMany", "()I"⟩
abbrev cX8_count : ByteArray := prog_10_method_62_code
def yX8_count : MethodName := ⟨RX8, "count", "(I)I"⟩
abbrev cX8_total : ByteArray := prog_10_method_63_code
def yX8_total : MethodName := ⟨RX8, "total", "(I)I"⟩
abbrev cX8_ticksFor : ByteArray := prog_10_method_64_code
def yX8_ticksFor : MethodName := ⟨RX8, "ticksFor", "(I)I"⟩
abbrev cX8_answeredIn : ByteArray := prog_10_method_65_code
def yX8_answeredIn : MethodName := ⟨RX8, "answeredIn", "(I)I"⟩
abbrev cX8_lowestFree : ByteArray := prog_10_method_66_code
def yX8_lowestFree : MethodName := ⟨RX8, "lowestFree", "()I"⟩
abbrev cX8_ifSubmitted : ByteArray := prog_10_method_67_code
def yX8_ifSubmitted : MethodName := ⟨RX8, "ifSubmitted", "(IZ)I"⟩
abbrev cX8_idleIn : ByteArray := prog_10_method_68_code
def yX8_idleIn : MethodName := ⟨RX8, "idleIn", "()I"⟩
abbrev cX8_mean : ByteArray := prog_10_method_69_code
def yX8_mean : MethodName := ⟨RX8, "mean", "()D"⟩
def RL : String := "GroupCommitsLaw"
abbrev cL_law : ByteArray := code
def yL_law : MethodName := ⟨RL, "law", "([I)Z"⟩
abbrev vwCl : List vw_C := [(RX0, TX0, 9), (RX1, TX1, 5), (RX2, TX2, 3), (RX3, TX3, 12), (RX4, TX4, 3), (RX5, TX5, 7), (RX6, TX6, 1), (RX7, TX7, 5), (RX8, TX8, 13)]
end
section
-- the prover's own kit: methods as partial functions on one state of numbers (cell, slot -> number), rows of the machine over that state
abbrev XT : Type := Nat → Nat → Int32
def m_up (X : XT) (i : Nat) (f : Nat → Int32) : XT := fun j => if j = i then f else X j
abbrev m_in (i : Int32) (n : Nat) : Prop := ¬ (i < 0 ∨ n ≤ i.toNatClampNeg)
def m_gd {α : Type} (c : Prop) [Decidable c] (k : Option α) : Option α := if c then k else none
def m_nm {α β : Type} (v : α) (k : α → β) : β := k v
def m_bi {α : Type} (o : Option (Int32 × XT)) (k : Int32 → XT → Option α) : Option α := match o with
  | none => none
  | some q => k q.1 q.2
def m_bv {α : Type} (o : Option XT) (k : XT → Option α) : Option α := match o with
  | none => none
  | some q => k q
theorem m_gd_s {α : Type} {c : Prop} [Decidable c] {k : Option α} {z : α} (h : m_gd c k = some z) : c ∧ k = some z := by
  unfold m_gd at h
  by_cases hc : c
  · rw [if_pos hc] at h; exact ⟨hc, h⟩
  · rw [if_neg hc] at h; cases h
theorem m_bi_s {α : Type} {o : Option (Int32 × XT)} {k : Int32 → XT → Option α} {z : α} (h : m_bi o k = some z) : ∃ (r : Int32) (X : XT), o = some (r, X) ∧ k r X = some z := by
  cases o with
  | none => cases h
  | some q => exact ⟨q.1, q.2, rfl, h⟩
theorem m_bv_s {α : Type} {o : Option XT} {k : XT → Option α} {z : α} (h : m_bv o k = some z) : ∃ X : XT, o = some X ∧ k X = some z := by
  cases o with
  | none => cases h
  | some q => exact ⟨q, rfl, h⟩
theorem m_nm_s {α β : Type} {v y : α} {k : α → β} {z : β} (e : y = v) (h : m_nm v k = z) : k y = z := by subst e; exact h
theorem m_it {α : Type} {c : Prop} [Decidable c] {A B z : α} (hc : c) (h : (if c then A else B) = z) : A = z := by rw [if_pos hc] at h; exact h
theorem m_ie {α : Type} {c : Prop} [Decidable c] {A B z : α} (hc : ¬ c) (h : (if c then A else B) = z) : B = z := by rw [if_neg hc] at h; exact h
def m_tbl : List Cond := lw_tbl.filter goodWord
theorem m_tbl_lw {w : Cond} (h : w ∈ m_tbl) : w ∈ lw_tbl := (List.mem_filter.mp h).1
theorem m_good : ∀ w ∈ m_tbl, (w.onTables && w.keeps) = true ∨ ∃ ty, w = .arrayClass ty := fun w h => good_of_word (List.mem_filter.mp h).2
theorem m_goodV {w0 : Cond} {own C : String} {idx mL : Nat} {y : MethodName} {bt : ByteArray} {rt : Option FieldType} (h1 : Cond.methodLink own idx y ∈ m_tbl) (h2 : Cond.instanceMethod y ∈ m_tbl) (h3 : Cond.selects C y y ∈ m_tbl) (h4 : Cond.initialized C ∈ m_tbl) (h5 : Cond.code y bt mL rt ∈ m_tbl) : GoodIn (w0 :: m_tbl) (wsV own idx C y (Cond.code y bt mL rt :: m_tbl)) := by
  have key : ∀ w ∈ wsV own idx C y (Cond.code y bt mL rt :: m_tbl), w ∈ m_tbl := by
    intro w hw
    simp only [wsV, List.cons_append, List.nil_append, List.mem_cons] at hw
    rcases hw with rfl | rfl | rfl | rfl | rfl | hw <;> assumption
  exact fun w hw => ⟨List.mem_cons_of_mem _ (key w hw), m_good w (key w hw)⟩
theorem m_goodS {w0 : Cond} {own : String} {idx mL : Nat} {y : MethodName} {bt : ByteArray} {rt : Option FieldType} (h1 : Cond.methodLink own idx y ∈ m_tbl) (h2 : Cond.static y ∈ m_tbl) (h4 : Cond.initialized y.cls ∈ m_tbl) (h5 : Cond.code y bt mL rt ∈ m_tbl) : GoodIn (w0 :: m_tbl) (va_wsS own idx y (Cond.code y bt mL rt :: m_tbl)) := by
  have key : ∀ w ∈ va_wsS own idx y (Cond.code y bt mL rt :: m_tbl), w ∈ m_tbl := by
    intro w hw
    simp only [va_wsS, List.cons_append, List.nil_append, List.mem_cons] at hw
    rcases hw with rfl | rfl | rfl | rfl | hw <;> assumption
  exact fun w hw => ⟨List.mem_cons_of_mem _ (key w hw), m_good w (key w hw)⟩
/-- what stands over a whole method -/
def m_Cx (p : Program) (s : State) (m : MethodId) (args : Array Value) (meth : Method) (c : Code) (cc : ByteArray) (nL : Nat) (own : String) (ret : Option FieldType) (w0 : Cond) (D : va_G) (tys : List (ClassId × FieldType)) (A : Nat → Prop) (Wf : XT → va_W) (ZZ : State → Prop) : Prop :=
  CallFix p m c cc nL s args (w0 :: m_tbl) own ∧ meth.sig.returnType = ret ∧ meth.locks = false ∧ va_K D vwCl tys s ∧ (∀ X, va_D A (Wf X)) ∧ ZZ s ∧ (∀ u U : State, u.vm.Alike U.vm → (∀ q : Nat, q < u.heap.size → ¬ A q → U.heap[q]? = u.heap[q]?) → ZZ u → ZZ U)
def m_PX (D : va_G) (tys : List (ClassId × FieldType)) (Wf : XT → va_W) (ZZ : State → Prop) (X : XT) (U : State) : Prop := va_P D vwCl (Wf X) U.heap ∧ va_K D vwCl tys U ∧ ZZ U
abbrev m_QI (D : va_G) (Wf : XT → va_W) (A : Nat → Prop) (r0 : Int32) (X0 : XT) : Array Value → State → Outcome → State → Prop := va_Qi (S := XT) (fun r X => r = r0 ∧ X = X0) (fun X t => va_P D vwCl (Wf X) t.heap) A
abbrev m_QV (D : va_G) (Wf : XT → va_W) (A : Nat → Prop) (X0 : XT) : Array Value → State → Outcome → State → Prop := va_Qv (S := XT) (fun X => X = X0) (fun X t => va_P D vwCl (Wf X) t.heap) A
section MKW
variable {p : Program} {l : Launch} {e : Env} {R : Room} {s : State} {m : MethodId} {args : Array Value} {below : List Frame} {meth : Method} {c : Code} {H : Heap} {locs : List Loc} {Q : State → Prop}
variable {cc : ByteArray} {pc : Nat} {ls : Array Slot} {rest : List Value} {D : va_G} {tys : List (ClassId × FieldType)} {A : Nat → Prop} {Wf : XT → va_W} {ZZ : State → Prop} {nL : Nat} {own : String} {ret : Option FieldType} {w0 : Cond} {X : XT}
theorem m_cw (C : m_Cx p s m args meth c cc nL own ret w0 D tys A Wf ZZ) {w : Cond} (h : w ∈ m_tbl) : w.before args s = true := C.1.2.2.2.2 w (List.mem_cons_of_mem _ h)
theorem m_ci {wl : List Cond} (h : ∀ w ∈ wl, w ∈ m_tbl) : ∀ w ∈ wl, w ∈ w0 :: m_tbl := fun w hw => List.mem_cons_of_mem _ (h w hw)
theorem m_get (C : m_Cx p s m args meth c cc nL own ret w0 D tys A Wf ZZ) (hP : va_P D vwCl (Wf X) H) {i aa ci : Nat} {fs : List Value} (he : (Wf X)[i]? = some (aa, .inr (ci, fs))) {Cn : String} {T : u_T} {N index : Nat} (hc : vwCl[ci]? = some (Cn, T, N)) (hin : ∀ w ∈ u_ws Cn T N, w ∈ m_tbl) (k : Nat) (hk : k < N) (hlink : Cond.fieldLink own index (T k).1 (T k).2.1 (T k).2.2.1 ∈ m_tbl) {v : Value} (hv : fs[k]? = some v) (hdg : decode cc pc = .ok (.getfield index, 3))
    (kk : W p l e R s m args below meth c H locs 0 0 Q (F0 m (pc + 3) ls (v :: rest))) : W p l e R s m args below meth c H locs 0 0 Q (F0 m pc ls (.ref aa :: rest)) :=
  va_get C.1.1 C.1.2.1 C.1.2.2.2.2 (m_ci hin) C.1.2.2.2.1 C.2.2.2.1 hP i he hc k hk (m_cw C hlink) (fun _ h => h) hv hdg kk
theorem m_put (C : m_Cx p s m args meth c cc nL own ret w0 D tys A Wf ZZ) (hP : va_P D vwCl (Wf X) H) (hS : va_S A s.heap H locs) {i aa ci : Nat} {fs : List Value} (he : (Wf X)[i]? = some (aa, .inr (ci, fs))) {Cn : String} {T : u_T} {N index : Nat} (hc : vwCl[ci]? = some (Cn, T, N)) (hin : ∀ w ∈ u_ws Cn T N, w ∈ m_tbl) {ty0 : Nat → FieldType} (hty : ∀ k, k < N → parseFieldDescriptor (T k).2.2.1 = some (ty0 k)) (hnm : ∀ a, a < N → ∀ b, b < N → a ≠ b → (T a).2.1 ≠ (T b).2.1) (k : Nat) (hk : k < N) (hlink : Cond.fieldLink own index (T k).1 (T k).2.1 (T k).2.2.1 ∈ m_tbl) (hfin : (T k).2.2.2 = false) {v : Value} (hn : narrow (ty0 k) v = v) (hfit : fits (ty0 k) v = true) (hl : k < fs.length) {Y : XT} (hset : (Wf X).set i (aa, .inr (ci, fs.set k v)) = Wf Y) (hdg : decode cc pc = .ok (.putfield index, 3))
    (kk : ∀ (Y1 : XT), Y1 = Y → ∀ (H1 : Heap) (locs1 : List Loc), va_P D vwCl (Wf Y1) H1 → va_S A s.heap H1 locs1 → W p l e R s m args below meth c H1 locs1 0 0 Q (F0 m (pc + 3) ls rest)) : W p l e R s m args below meth c H locs 0 0 Q (F0 m pc ls (v :: .ref aa :: rest)) := by
  refine va_put C.1.1 C.1.2.1 C.1.2.2.2.2 (m_ci hin) ty0 hty hnm C.1.2.2.2.1 C.2.2.2.1 hP (C.2.2.2.2.1 X) hS i he hc k hk (m_cw C hlink) (fun _ h => h) hfin (hty k hk) hn hfit hl hdg (fun H1 locs1 h1 _ h3 => ?_)
  rw [hset] at h1
  exact kk Y rfl H1 locs1 h1 h3
theorem m_ild (C : m_Cx p s m args meth c cc nL own ret w0 D tys A Wf ZZ) (hP : va_P D vwCl (Wf X) H) {i aa n : Nat} {cA : ClassId} {f : Nat → Int32} (he : (Wf X)[i]? = some (aa, .inl (cA, n, .inl f))) (t0 : Nat) (ht : tys[t0]? = some (cA, .int)) {j : Int32} (hin : m_in j n) (hdg : decode cc pc = .ok (.iaload, 1))
    (kk : ∀ y : Int32, y = f j.toNatClampNeg → W p l e R s m args below meth c H locs 0 0 Q (F0 m (pc + 1) ls (.int y :: rest))) : W p l e R s m args below meth c H locs 0 0 Q (F0 m pc ls (.int j :: .ref aa :: rest)) :=
  va_iald C.1.1 C.1.2.1 C.2.2.2.1 hP i t0 he ht hin hdg (kk _ rfl)
theorem m_zld (C : m_Cx p s m args meth c cc nL own ret w0 D tys A Wf ZZ) (hP : va_P D vwCl (Wf X) H) {i aa n : Nat} {cA : ClassId} {f : Nat → Int32} (he : (Wf X)[i]? = some (aa, .inl (cA, n, .inl f))) (t0 : Nat) (ht : tys[t0]? = some (cA, .boolean)) {j : Int32} (hin : m_in j n) (hdg : decode cc pc = .ok (.baload, 1))
    (kk : ∀ y : Int32, y = f j.toNatClampNeg → W p l e R s m args below meth c H locs 0 0 Q (F0 m (pc + 1) ls (.int y :: rest))) : W p l e R s m args below meth c H locs 0 0 Q (F0 m pc ls (.int j :: .ref aa :: rest)) :=
  va_zald C.1.1 C.1.2.1 C.2.2.2.1 hP i t0 he ht hin hdg (kk _ rfl)
theorem m_cld (C : m_Cx p s m args meth c cc nL own ret w0 D tys A Wf ZZ) (hP : va_P D vwCl (Wf X) H) {i aa n : Nat} {cA : ClassId} {f : Nat → Int32} (he : (Wf X)[i]? = some (aa, .inl (cA, n, .inl f))) (t0 : Nat) (ht : tys[t0]? = some (cA, .char)) {j : Int32} (hin : m_in j n) (hdg : decode cc pc = .ok (.caload, 1))
    (kk : ∀ y : Int32, y = f j.toNatClampNeg → W p l e R s m args below meth c H locs 0 0 Q (F0 m (pc + 1) ls (.int y :: rest))) : W p l e R s m args below meth c H locs 0 0 Q (F0 m pc ls (.int j :: .ref aa :: rest)) :=
  va_cald C.1.1 C.1.2.1 C.2.2.2.1 hP i t0 he ht hin hdg (kk _ rfl)
theorem m_ald (C : m_Cx p s m args meth c cc nL own ret w0 D tys A Wf ZZ) (hP : va_P D vwCl (Wf X) H) {i aa n : Nat} {cA : ClassId} {Cn : String} {f : Nat → Option Nat} (he : (Wf X)[i]? = some (aa, .inl (cA, n, .inr (.inr (.inr (.inr f)))))) (t0 : Nat) (ht : tys[t0]? = some (cA, .object Cn)) {j : Int32} (hin : m_in j n) (hdg : decode cc pc = .ok (.aaload, 1)) {b : Nat} (hf : f j.toNatClampNeg = some b)
    (kk : W p l e R s m args below meth c H locs 0 0 Q (F0 m (pc + 1) ls (.ref b :: rest))) : W p l e R s m args below meth c H locs 0 0 Q (F0 m pc ls (.int j :: .ref aa :: rest)) := by
  refine va_aldq C.1.1 C.1.2.1 C.2.2.2.1 hP i t0 he ht hin hdg ?_
  rw [hf]
  exact kk
theorem m_ist (C : m_Cx p s m args meth c cc nL own ret w0 D tys A Wf ZZ) (hP : va_P D vwCl (Wf X) H) (hS : va_S A s.heap H locs) {i aa n : Nat} {cA : ClassId} {f : Nat → Int32} (he : (Wf X)[i]? = some (aa, .inl (cA, n, .inl f))) (t0 : Nat) (ht : tys[t0]? = some (cA, .int)) {j x : Int32} (hin : m_in j n) (hset : ∀ g : Nat → Int32, (Wf X).set i (aa, .inl (cA, n, .inl g)) = Wf (m_up X i g)) (hdg : decode cc pc = .ok (.iastore, 1))
    (kk : ∀ (Y1 : XT), Y1 = m_up X i (upd f j.toNatClampNeg x) → ∀ (H1 : Heap) (locs1 : List Loc), va_P D vwCl (Wf Y1) H1 → va_S A s.heap H1 locs1 → W p l e R s m args below meth c H1 locs1 0 0 Q (F0 m (pc + 1) ls rest)) : W p l e R s m args below meth c H locs 0 0 Q (F0 m pc ls (.int x :: .int j :: .ref aa :: rest)) := by
  refine va_iast C.1.1 C.1.2.1 C.2.2.2.1 hP (C.2.2.2.2.1 X) hS i t0 he ht hin hdg (fun H1 locs1 h1 _ h3 => ?_)
  rw [hset] at h1
  exact kk _ rfl H1 locs1 h1 h3
theorem m_zst (C : m_Cx p s m args meth c cc nL own ret w0 D tys A Wf ZZ) (hP : va_P D vwCl (Wf X) H) (hS : va_S A s.heap H locs) {i aa n : Nat} {cA : ClassId} {f : Nat → Int32} (he : (Wf X)[i]? = some (aa, .inl (cA, n, .inl f))) (t0 : Nat) (ht : tys[t0]? = some (cA, .boolean)) {j x : Int32} (hin : m_in j n) (hset : ∀ g : Nat → Int32, (Wf X).set i (aa, .inl (cA, n, .inl g)) = Wf (m_up X i g)) (hdg : decode cc pc = .ok (.bastore, 1))
    (kk : ∀ (Y1 : XT), Y1 = m_up X i (upd f j.toNatClampNeg (vp_nar .boolean x)) → ∀ (H1 : Heap) (locs1 : List Loc), va_P D vwCl (Wf Y1) H1 → va_S A s.heap H1 locs1 → W p l e R s m args below meth c H1 locs1 0 0 Q (F0 m (pc + 1) ls rest)) : W p l e R s m args below meth c H locs 0 0 Q (F0 m pc ls (.int x :: .int j :: .ref aa :: rest)) := by
  refine va_zast C.1.1 C.1.2.1 C.2.2.2.1 hP (C.2.2.2.2.1 X) hS i t0 he ht hin hdg (fun H1 locs1 h1 _ h3 => ?_)
  rw [hset] at h1
  exact kk _ rfl H1 locs1 h1 h3
theorem m_cst (C : m_Cx p s m args meth c cc nL own ret w0 D tys A Wf ZZ) (hP : va_P D vwCl (Wf X) H) (hS : va_S A s.heap H locs) {i aa n : Nat} {cA : ClassId} {f : Nat → Int32} (he : (Wf X)[i]? = some (aa, .inl (cA, n, .inl f))) (t0 : Nat) (ht : tys[t0]? = some (cA, .char)) {j x : Int32} (hin : m_in j n) (hset : ∀ g : Nat → Int32, (Wf X).set i (aa, .inl (cA, n, .inl g)) = Wf (m_up X i g)) (hdg : decode cc pc = .ok (.castore, 1))
    (kk : ∀ (Y1 : XT), Y1 = m_up X i (upd f j.toNatClampNeg (vp_nar .char x)) → ∀ (H1 : Heap) (locs1 : List Loc), va_P D vwCl (Wf Y1) H1 → va_S A s.heap H1 locs1 → W p l e R s m args below meth c H1 locs1 0 0 Q (F0 m (pc + 1) ls rest)) : W p l e R s m args below meth c H locs 0 0 Q (F0 m pc ls (.int x :: .int j :: .ref aa :: rest)) := by
  refine va_cast C.1.1 C.1.2.1 C.2.2.2.1 hP (C.2.2.2.2.1 X) hS i t0 he ht hin hdg (fun H1 locs1 h1 _ h3 => ?_)
  rw [hset] at h1
  exact kk _ rfl H1 locs1 h1 h3
theorem m_copy (C : m_Cx p s m args meth c cc nL own ret w0 D tys A Wf ZZ) (hP : va_P D vwCl (Wf X) H) (hS : va_S A s.heap H locs) (hsz : ls.size = nL) {i0 i1 a0 a1 n0 n1 : Nat} {c0 c1 : ClassId} {f g : Nat → Int32} (he0 : (Wf X)[i0]? = some (a0, .inl (c0, n0, .inl f))) (he1 : (Wf X)[i1]? = some (a1, .inl (c1, n1, .inl g))) (t0 t1 : Nat) {ty : FieldType} (ht0 : tys[t0]? = some (c0, ty)) (ht1 : tys[t1]? = some (c1, ty)) (hprim : refKind ty = false) {index : Nat} (hl1 : Cond.methodLink own index arraycopyName ∈ m_tbl) (hl2 : Cond.native arraycopyName ∈ m_tbl) (hl3 : Cond.static arraycopyName ∈ m_tbl) (hl4 : Cond.initialized "java/lang/System" ∈ m_tbl) {n : Int32} {nn : Nat} (hnn : n.toNatClampNeg = nn) (h3 : ¬ n < 0) (h4 : nn ≤ n0) (h5 : nn ≤ n1) (hfit : ∀ i, i < nn → fits ty (.int (f i)) = true) (hframes : 1 ≤ R.frames) (hlocals : (rest.map fun v => v.category).sum + (nativeFrameWords "java/lang/System" "arraycopy" 5 + 11) ≤ R.locals) (hset : ∀ g : Nat → Int32, (Wf X).set i1 (a1, .inl (c1, n1, .inl g)) = Wf (m_up X i1 g)) (hdg : decode cc pc = .ok (.invokestatic index, 3))
    (kk : ∀ (Y1 : XT), Y1 = m_up X i1 (va_cpy f g 0 0 nn) → ∀ (H1 : Heap) (locs1 : List Loc), va_P D vwCl (Wf Y1) H1 → va_S A s.heap H1 locs1 → W p l e R s m args below meth c H1 locs1 0 0 Q (F0 m (pc + 3) ls rest)) : W p l e R s m args below meth c H locs 0 0 Q (F0 m pc ls (.int n :: .int 0 :: .ref a1 :: .int 0 :: .ref a0 :: rest)) := by
  subst hnn
  have z0 : (0 : Int32).toNatClampNeg = 0 := rfl
  have z1 : ¬ (0 : Int32) < 0 := by decide
  refine va_copyi C.1.1 C.1.2.1 (C.1.2.2.1.trans hsz.symm) C.1.2.2.2.1 (m_cw C hl1) (m_cw C hl2) (m_cw C hl3) (m_cw C hl4) C.2.2.2.1 hP (C.2.2.2.2.1 X) hS i0 i1 t0 t1 he0 he1 ht0 ht1 hprim z1 z1 h3 (by rw [z0, Nat.zero_add]; exact h4) (by rw [z0, Nat.zero_add]; exact h5) (fun i hi => by rw [z0, Nat.zero_add]; exact hfit i hi) hframes hlocals hdg (fun H1 locs1 h1 _ h3 => ?_)
  rw [z0, hset] at h1
  exact kk _ rfl H1 locs1 h1 h3
theorem m_gets (C : m_Cx p s m args meth c cc nL own ret w0 D tys A Wf ZZ) (hS : va_S A s.heap H locs) {Cn n d : String} {v : Value} {index : Nat} (hZ : va_Z Cn n d v A s s.heap) (hlink : Cond.fieldLink own index Cn n d ∈ m_tbl) (hdg : decode cc pc = .ok (.getstatic index, 3))
    (kk : W p l e R s m args below meth c H locs 0 0 Q (F0 m (pc + 3) ls (v :: rest))) : W p l e R s m args below meth c H locs 0 0 Q (F0 m pc ls rest) :=
  va_gets C.1.1 C.1.2.1 hZ hS C.1.2.2.2.1 (m_cw C hlink) (fun _ h => h) hdg kk
theorem m_tld (C : m_Cx p s m args meth c cc nL own ret w0 D tys A Wf ZZ) (hS : va_S A s.heap H locs) {t N : Nat} {f : Nat → Int32} (hT : va_T .int t N (fun j => .int (f j)) A s s.heap) {j : Int32} (hin : m_in j N) (hdg : decode cc pc = .ok (.iaload, 1))
    (kk : ∀ y : Int32, y = f j.toNatClampNeg → W p l e R s m args below meth c H locs 0 0 Q (F0 m (pc + 1) ls (.int y :: rest))) : W p l e R s m args below meth c H locs 0 0 Q (F0 m pc ls (.int j :: .ref t :: rest)) :=
  va_ti C.1.1 C.1.2.1 hT hS hin rfl hdg (kk _ rfl)
theorem m_max (C : m_Cx p s m args meth c cc nL own ret w0 D tys A Wf ZZ) (hsz : ls.size = nL) {index : Nat} (hl1 : Cond.methodLink own index Lib.Math.max.name ∈ m_tbl) (hl2 : Cond.static Lib.Math.max.name ∈ m_tbl) (hl3 : Cond.initialized "java/lang/Math" ∈ m_tbl) (hl4 : Cond.code Lib.Math.max.name Lib.Math.max.code 2 (some .int) ∈ m_tbl) (hframes : 1 ≤ R.frames) (hlocals : (rest.map fun v => v.category).sum + 13 ≤ R.locals) {x y : Int32} (hdg : decode cc pc = .ok (.invokestatic index, 3))
    (kk : ∀ z : Int32, z = (if x < y then y else x) → W p l e R s m args below meth c H locs 0 0 Q (F0 m (pc + 3) ls (.int z :: rest))) : W p l e R s m args below meth c H locs 0 0 Q (F0 m pc ls (.int y :: .int x :: rest)) :=
  va_mmax C.1.1 C.1.2.1 (C.1.2.2.1.trans hsz.symm) C.1.2.2.2.1 (m_cw C hl1) (m_cw C hl2) (m_cw C hl3) (m_cw C hl4) hframes hlocals (Nat.zero_le _) (Nat.zero_le _) hdg (kk _ rfl)
theorem m_min (C : m_Cx p s m args meth c cc nL own ret w0 D tys A Wf ZZ) (hsz : ls.size = nL) {index : Nat} (hl1 : Cond.methodLink own index Lib.Math.min.name ∈ m_tbl) (hl2 : Cond.static Lib.Math.min.name ∈ m_tbl) (hl3 : Cond.initialized "java/lang/Math" ∈ m_tbl) (hl4 : Cond.code Lib.Math.min.name Lib.Math.min.code 2 (some .int) ∈ m_tbl) (hframes : 1 ≤ R.frames) (hlocals : (rest.map fun v => v.category).sum + 13 ≤ R.locals) {x y : Int32} (hdg : decode cc pc = .ok (.invokestatic index, 3))
    (kk : ∀ z : Int32, z = (if y < x then y else x) → W p l e R s m args below meth c H locs 0 0 Q (F0 m (pc + 3) ls (.int z :: rest))) : W p l e R s m args below meth c H locs 0 0 Q (F0 m pc ls (.int y :: .int x :: rest)) :=
  va_mmin C.1.1 C.1.2.1 (C.1.2.2.1.trans hsz.symm) C.1.2.2.2.1 (m_cw C hl1) (m_cw C hl2) (m_cw C hl3) (m_cw C hl4) hframes hlocals (Nat.zero_le _) (Nat.zero_le _) hdg (kk _ rfl)
theorem m_PX_pass (C : m_Cx p s m args meth c cc nL own ret w0 D tys A Wf ZZ) (hP : va_P D vwCl (Wf X) H) (hS : va_S A s.heap H locs) {U : State} (hU : U.heap = H) (hW : s.WarmedH U.vm) : m_PX D tys Wf ZZ X U :=
  ⟨by rw [hU]; exact hP, va_K.moved hW.alike C.2.2.2.1, C.2.2.2.2.2.2 s U hW.alike (fun q h1 h2 => by rw [hU]; exact hS.2.1 q h1 h2) C.2.2.2.2.2.1⟩
theorem m_blind (C : m_Cx p s m args meth c cc nL own ret w0 D tys A Wf ZZ) {av : List Value} : FrameBlind (va_Pc av (m_PX D tys Wf ZZ X)) := fun a U g mk q => by
  obtain ⟨q0, qP, qK, qZ⟩ := q
  exact ⟨q0, qP, va_K.moved (u := U) (U := U.calling g mk a) (Vm.Alike.refl U.vm) qK, C.2.2.2.2.2.2 U (U.calling g mk a) (Vm.Alike.refl U.vm) (fun _ _ _ => rfl) qZ⟩
section MKC
variable {y : MethodName} {rm : Room} {bt : ByteArray} {mL index : Nat} {rt : Option FieldType} {b i ci n : Nat} {fs : List Value} {q : vw_C} {st : List Value} {r : Int32} {X1 : XT}
theorem m_callVi (C : m_Cx p s m args meth c cc nL own ret w0 D tys A Wf ZZ) (As : List Value) (rest : List Value) (hM : Met l y (Cond.code y bt mL rt :: m_tbl) rm (va_Pc (.ref b :: As) (m_PX D tys Wf ZZ X)) (m_QI D Wf A r X1) 0 0 A) (hG : GoodIn (w0 :: m_tbl) (wsV own index q.1 y (Cond.code y bt mL rt :: m_tbl))) (hrm : rm.cells = 0 ∧ rm.slots = 0) (hd : y.cls = q.1 ∧ y.cls ≠ "java/lang/invoke/MethodHandle" ∧ y.cls ≠ "java/lang/invoke/VarHandle" ∧ (parseMethodDescriptor y.desc).map (fun d => d.parameters.length) = some n) (hR : rm.frames + 1 ≤ R.frames ∧ 8 + (mL + 11) + rm.locals ≤ R.locals) (hc : vwCl[ci]? = some q) (he : (Wf X)[i]? = some (b, .inr (ci, fs))) (hP : va_P D vwCl (Wf X) H) (hS : va_S A s.heap H locs) (hn : As.length = n) (hsz : ls.size = nL) (hst : st = As.reverse ++ .ref b :: rest) (hroom : (rest.map fun v => v.category).sum ≤ 8) (hdg : decode cc pc = .ok (.invokevirtual index, 3))
    (kk : ∀ (H1 : Heap) (locs1 : List Loc), va_P D vwCl (Wf X1) H1 → va_S A s.heap H1 locs1 → W p l e R s m args below meth c H1 locs1 0 0 Q (F0 m (pc + 3) ls (.int r :: rest))) : W p l e R s m args below meth c H locs 0 0 Q (F0 m pc ls st) := by
  refine va_calli (va_runV (As := As) (rest := rest) C.1 hM (cwV n C.1.2.2.2.2 hG rfl hrm.1 hrm.2 hd hR) ⟨m_blind C, va_recv C.2.2.2.1 hP hc he, fun U hU hW => ⟨rfl, m_PX_pass C hP hS hU hW⟩⟩ rfl hn hsz hst (lv_room hroom) hdg ⟨Nat.zero_le _, Nat.zero_le _⟩) hS (fun q _ h => h) (fun q h => h) (fun r' u t H1 locs1 ht hvm hw' hB hz hk hS1 => ?_)
  obtain ⟨rfl, rfl⟩ := hw'
  rw [ht] at hB
  exact kk H1 locs1 hB hS1
theorem m_callVv (C : m_Cx p s m args meth c cc nL own ret w0 D tys A Wf ZZ) (As : List Value) (rest : List Value) (hM : Met l y (Cond.code y bt mL rt :: m_tbl) rm (va_Pc (.ref b :: As) (m_PX D tys Wf ZZ X)) (m_QV D Wf A X1) 0 0 A) (hG : GoodIn (w0 :: m_tbl) (wsV own index q.1 y (Cond.code y bt mL rt :: m_tbl))) (hrm : rm.cells = 0 ∧ rm.slots = 0) (hd : y.cls = q.1 ∧ y.cls ≠ "java/lang/invoke/MethodHandle" ∧ y.cls ≠ "java/lang/invoke/VarHandle" ∧ (parseMethodDescriptor y.desc).map (fun d => d.parameters.length) = some n) (hR : rm.frames + 1 ≤ R.frames ∧ 8 + (mL + 11) + rm.locals ≤ R.locals) (hc : vwCl[ci]? = some q) (he : (Wf X)[i]? = some (b, .inr (ci, fs))) (hP : va_P D vwCl (Wf X) H) (hS : va_S A s.heap H locs) (hn : As.length = n) (hsz : ls.size = nL) (hst : st = As.reverse ++ .ref b :: rest) (hroom : (rest.map fun v => v.category).sum ≤ 8) (hdg : decode cc pc = .ok (.invokevirtual index, 3))
    (kk : ∀ (H1 : Heap) (locs1 : List Loc), va_P D vwCl (Wf X1) H1 → va_S A s.heap H1 locs1 → W p l e R s m args below meth c H1 locs1 0 0 Q (F0 m (pc + 3) ls rest)) : W p l e R s m args below meth c H locs 0 0 Q (F0 m pc ls st) := by
  refine va_callv (va_runV (As := As) (rest := rest) C.1 hM (cwV n C.1.2.2.2.2 hG rfl hrm.1 hrm.2 hd hR) ⟨m_blind C, va_recv C.2.2.2.1 hP hc he, fun U hU hW => ⟨rfl, m_PX_pass C hP hS hU hW⟩⟩ rfl hn hsz hst (lv_room hroom) hdg ⟨Nat.zero_le _, Nat.zero_le _⟩) hS (fun q _ h => h) (fun q h => h) (fun u t H1 locs1 ht hvm hw' hB hz hk hS1 => ?_)
  subst hw'
  rw [ht] at hB
  exact kk H1 locs1 hB hS1
theorem m_callSi (C : m_Cx p s m args meth c cc nL own ret w0 D tys A Wf ZZ) (As : List Value) (rest : List Value) (hM : Met l y (Cond.code y bt mL rt :: m_tbl) rm (va_Pc As (m_PX D tys Wf ZZ X)) (m_QI D Wf A r X1) 0 0 A) (hG : GoodIn (w0 :: m_tbl) (va_wsS own index y (Cond.code y bt mL rt :: m_tbl))) (hrm : rm.cells = 0 ∧ rm.slots = 0) (hd : y.cls ≠ "java/lang/invoke/MethodHandle" ∧ y.cls ≠ "java/lang/invoke/VarHandle" ∧ (parseMethodDescriptor y.desc).map (fun d => d.parameters.length) = some n) (hR : rm.frames + 1 ≤ R.frames ∧ 8 + (mL + 11) + rm.locals ≤ R.locals) (hP : va_P D vwCl (Wf X) H) (hS : va_S A s.heap H locs) (hn : As.length = n) (hsz : ls.size = nL) (hst : st = As.reverse ++ rest) (hroom : (rest.map fun v => v.category).sum ≤ 8) (hdg : decode cc pc = .ok (.invokestatic index, 3))
    (kk : ∀ (H1 : Heap) (locs1 : List Loc), va_P D vwCl (Wf X1) H1 → va_S A s.heap H1 locs1 → W p l e R s m args below meth c H1 locs1 0 0 Q (F0 m (pc + 3) ls (.int r :: rest))) : W p l e R s m args below meth c H locs 0 0 Q (F0 m pc ls st) := by
  refine va_calli (va_runS (As := As) (rest := rest) C.1 hM (va_cwS n C.1.2.2.2.2 hG rfl hrm.1 hrm.2 hd hR) ⟨m_blind C, fun U hU hW => ⟨rfl, m_PX_pass C hP hS hU hW⟩⟩ rfl hn hsz hst (lv_room hroom) hdg ⟨Nat.zero_le _, Nat.zero_le _⟩) hS (fun q _ h => h) (fun q h => h) (fun r' u t H1 locs1 ht hvm hw' hB hz hk hS1 => ?_)
  obtain ⟨rfl, rfl⟩ := hw'
  rw [ht] at hB
  exact kk H1 locs1 hB hS1
end MKC
theorem m_iret {r r0 : Int32} {X0 : XT} (C : m_Cx p s m args meth c cc nL own (some .int) w0 D tys A Wf ZZ) (hP : va_P D vwCl (Wf X) H) (hS : va_S A s.heap H locs) (hdg : decode cc pc = .ok (.ireturn, 1)) (e1 : some (r, X) = some (r0, X0)) : W p l e R s m args below meth c H locs 0 0 (MQ below (m_QI D Wf A r0 X0) args s 0 0 A) (F0 m pc ls [.int r]) := by
  cases e1
  exact W.iret C.1.1 C.1.2.1 C.2.1 (fun t ht hW => ⟨⟨r, X, rfl, ⟨rfl, rfl⟩, by show va_P D vwCl (Wf X) t.heap; rw [ht]; exact hP⟩, hS.F ht⟩) hS.2.2 hdg C.2.2.1
theorem m_zret {ty : FieldType} {r r0 : Int32} {X0 : XT} (C : m_Cx p s m args meth c cc nL own (some ty) w0 D tys A Wf ZZ) (hP : va_P D vwCl (Wf X) H) (hS : va_S A s.heap H locs) (hdg : decode cc pc = .ok (.ireturn, 1)) (hn : narrow ty (.int r) = .int r) (e1 : some (r, X) = some (r0, X0)) : W p l e R s m args below meth c H locs 0 0 (MQ below (m_QI D Wf A r0 X0) args s 0 0 A) (F0 m pc ls [.int r]) := by
  cases e1
  exact W.zret C.1.1 C.1.2.1 C.2.1 hn (fun t ht hW => ⟨⟨r, X, rfl, ⟨rfl, rfl⟩, by show va_P D vwCl (Wf X) t.heap; rw [ht]; exact hP⟩, hS.F ht⟩) hS.2.2 hdg C.2.2.1
theorem m_vret {X0 : XT} (C : m_Cx p s m args meth c cc nL own none w0 D tys A Wf ZZ) (hP : va_P D vwCl (Wf X) H) (hS : va_S A s.heap H locs) (hdg : decode cc pc = .ok (.return_, 1)) (e1 : some X = some X0) : W p l e R s m args below meth c H locs 0 0 (MQ below (m_QV D Wf A X0) args s 0 0 A) (F0 m pc ls []) := by
  cases e1
  exact W.vret C.1.1 C.1.2.1 C.2.1 (fun t ht hW => ⟨⟨X, rfl, rfl, by show va_P D vwCl (Wf X) t.heap; rw [ht]; exact hP⟩, hS.F ht⟩) hS.2.2 hdg C.2.2.1
theorem m_bool {v : Int32} (h : v = 0 ∨ v = 1) : narrow .boolean (.int v) = .int v ∧ fits .boolean (.int v) = true := by
  rcases h with rfl | rfl <;> exact ⟨by decide, by decide⟩
theorem m_char {v : Int32} (h : vp_nar .char v = v) : narrow .char (.int v) = .int v := by
  have e : narrow .char (.int v) = .int (vp_nar .char v) := rfl
  rw [e, h]
/-- a method's contract out of the walk of its body -/
theorem m_met {y : MethodName} {rm : Room} {bt : ByteArray} {mL : Nat} {rt : Option FieldType} {av : List Value} {Qc : Array Value → State → Outcome → State → Prop} (hy : plainName y.cls = true) (ho : y.cls = own) (hsl : (lg_sl av).length ≤ mL) (hWD : ∀ X, va_D A (Wf X)) (hZk : ∀ u U : State, u.vm.Alike U.vm → (∀ q : Nat, q < u.heap.size → ¬ A q → U.heap[q]? = u.heap[q]?) → ZZ u → ZZ U)
    (body : ∀ (p : Program) (e : Env) (s : State) (m : MethodId) (args : Array Value) (below : List Frame) (meth : Method) (c : Code), m_Cx p s m args meth c bt mL own rt (Cond.code y bt mL rt) D tys A Wf ZZ → ∀ ls : Array Slot, lv_has ls mL (lv_args 0 av) → va_P D vwCl (Wf X) s.heap → va_S A s.heap s.heap [] → W p l e rm s m args below meth c s.heap [] 0 0 (MQ below Qc args s 0 0 A) (F0 m 0 ls [])) : Met l y (Cond.code y bt mL rt :: m_tbl) rm (va_Pc av (m_PX D tys Wf ZZ X)) Qc 0 0 A := by
  subst ho
  refine Met.ofW (cc := bt) (maxL := mL) (ret := rt) hy rfl ?_
  intro p e s m args below meth c s₁ B hml hv
  obtain ⟨rfl, hP, hK, hZ⟩ := hv
  have hl := lv_entry av (n := mL) hsl
  have h := body p e s m _ below meth c ⟨⟨B.exec, B.bytes, hml, findClass_of_methodNamed B.named, atoms_spec (ws := Cond.code y bt mL rt :: m_tbl) B.pre⟩, B.returns, B.notSynchronized, hK, hWD, hZ, hZk⟩ _ hl hP va_S.rf
  rw [lg_entry_eq]
  exact h
end MKW
end
section
-- the worlds: written by wip/gen/worlds.py
def m_shL (a : Nat → Nat) (cy : Nat → ClassId) (b j : Nat) (f : Nat → Int32) : va_E := match j with
  | 0 => .inr (3, [.ref (a (b + 1)), .ref (a (b + 10)), .ref (a (b + 15)), .ref (a (b + 17)), .ref (a (b + 19)), .ref (a (b + 20)), .int (f 6), .int (f 7), .int (f 8), .int (f 9), .int (f 10), .int (f 11)])
  | 1 => .inr (0, [.ref (a (b + 2)), .ref (a (b + 3)), .ref (a (b + 4)), .ref (a (b + 5)), .ref (a (b + 6)), .ref (a (b + 7)), .ref (a (b + 8)), .ref (a (b + 9)), .int (f 8)])
  | 2 => .inl (cy 0, 150, .inl f)
  | 3 => .inl (cy 0, 150, .inl f)
  | 4 => .inl (cy 1, 150, .inl f)
  | 5 => .inl (cy 0, 150, .inl f)
  | 6 => .inl (cy 0, 150, .inl f)
  | 7 => .inl (cy 0, 150, .inl f)
  | 8 => .inl (cy 0, 150, .inl f)
  | 9 => .inl (cy 1, 150, .inl f)
  | 10 => .inr (1, [.ref (a (b + 11)), .ref (a (b + 12)), .ref (a (b + 13)), .ref (a (b + 14)), .int (f 4)])
  | 11 => .inl (cy 0, 150, .inl f)
  | 12 => .inl (cy 0, 150, .inl f)
  | 13 => .inl (cy 0, 150, .inl f)
  | 14 => .inl (cy 0, 150, .inl f)
  | 15 => .inr (4, [.ref (a (b + 16)), .int (f 1), .int (f 2)])
  | 16 => .inl (cy 0, 150, .inl f)
  | 17 => .inr (6, [.ref (a (b + 18))])
  | 18 => .inl (cy 0, 4, .inl f)
  | 19 => .inl (cy 0, 8, .inl f)
  | _ => .inl (cy 0, 12, .inl f)
def m_shC (a : Nat → Nat) (cy : Nat → ClassId) (i : Nat) (f : Nat → Int32) : va_E := if i < 126 then m_shL a cy (i / 21 * 21) (i % 21) f else match i with
  | 126 => .inr (7, [.ref (a 0), .ref (a 21), .ref (a 127), .ref (a 129), .int (f 4)])
  | 127 => .inr (2, [.ref (a 128), .int (f 1), .int (f 2)])
  | 128 => .inl (cy 3, 4, .inr (.inr (.inr (.inr (fun j => some (a (21 * (2 + j))))))))
  | 129 => .inr (5, [.ref (a 130), .int (f 1), .int (f 2), .int (f 3), .int (f 4), .int (f 5), .int (f 6)])
  | _ => .inl (cy 2, 80, .inl f)
def m_shM (a : Nat → Nat) (cy : Nat → ClassId) (i : Nat) (f : Nat → Int32) : va_E := match i with
  | 0 => .inr (8, [.ref (a 1), .ref (a 2), .ref (a 3), .int (f 3), .ref (a 4), .int (f 5), .ref (a 5), .int (f 7), .int (f 8), .int (f 9), .int (f 10), .int (f 11), .int (f 12)])
  | 1 => .inl (cy 0, 1816, .inl f)
  | 2 => .inl (cy 0, 1816, .inl f)
  | 3 => .inl (cy 0, 7264, .inl f)
  | 4 => .inl (cy 0, 1816, .inl f)
  | _ => .inl (cy 0, 80, .inl f)
def m_wl (n : Nat) (a : Nat → Nat) (sh : Nat → (Nat → Int32) → va_E) (X : XT) : va_W := (List.range n).map (fun i => (a i, sh i (X i)))
theorem m_wl_at {n : Nat} {a : Nat → Nat} {sh : Nat → (Nat → Int32) → va_E} {X : XT} {i : Nat} (h : i < n) : (m_wl n a sh X)[i]? = some (a i, sh i (X i)) := by
  unfold m_wl
  rw [List.getElem?_map, List.getElem?_range h]
  rfl
theorem m_wl_out {n : Nat} {a : Nat → Nat} {sh : Nat → (Nat → Int32) → va_E} {X : XT} {i : Nat} (h : ¬ i < n) : (m_wl n a sh X)[i]? = none := by
  unfold m_wl
  rw [List.getElem?_eq_none_iff, List.length_map, List.length_range]
  omega
theorem m_wl_set {n : Nat} {a : Nat → Nat} {sh : Nat → (Nat → Int32) → va_E} {X : XT} {i : Nat} (h : i < n) {f : Nat → Int32} {e : va_E} (he : sh i f = e) : (m_wl n a sh X).set i (a i, e) = m_wl n a sh (m_up X i f) := by
  subst he
  apply List.ext_getElem?
  intro j
  rw [List.getElem?_set]
  by_cases hj : j < n
  · rw [m_wl_at hj, m_wl_at hj]
    by_cases hij : i = j
    · subst hij
      rw [if_pos rfl, if_pos (by unfold m_wl; rw [List.length_map, List.length_range]; exact h)]
      simp [m_up]
    · rw [if_neg hij]
      simp [m_up, Ne.symm hij]
  · rw [m_wl_out hj, m_wl_out hj]
    by_cases hij : i = j
    · subst hij
      exact absurd h hj
    · rw [if_neg hij]
/-- the addresses of n cells, all apart -/
def m_inj (n : Nat) (a : Nat → Nat) : Prop := ∀ i j : Nat, i < n → j < n → a i = a j → i = j
def m_AA (n : Nat) (a : Nat → Nat) : Nat → Prop := fun q => ∃ i : Nat, i < n ∧ q = a i
theorem m_wl_D {n : Nat} {a : Nat → Nat} (h : m_inj n a) (sh : Nat → (Nat → Int32) → va_E) (X : XT) : va_D (m_AA n a) (m_wl n a sh X) := by
  have key : ∀ (k : Nat) (q : Nat × va_E), (m_wl n a sh X)[k]? = some q → k < n ∧ q.1 = a k := by
    intro k q hq
    by_cases hk : k < n
    · rw [m_wl_at hk] at hq
      cases hq
      exact ⟨hk, rfl⟩
    · rw [m_wl_out hk] at hq
      cases hq
  refine ⟨fun i j p q hp hq e => ?_, fun k q hq => ⟨k, key k q hq⟩⟩
  obtain ⟨h1, h2⟩ := key i p hp
  obtain ⟨h3, h4⟩ := key j q hq
  exact h i j h1 h3 (by rw [← h2, ← h4, e])
abbrev m_tc (cy : Nat → ClassId) : List (ClassId × FieldType) := [(cy 0, .int), (cy 1, .boolean), (cy 2, .char), (cy 3, .object "GroupCommits$Log")]
abbrev m_WC (a : Nat → Nat) (cy : Nat → ClassId) : XT → va_W := m_wl 131 a (m_shC a cy)
abbrev m_AC (a : Nat → Nat) : Nat → Prop := m_AA 131 a
abbrev m_WM (a : Nat → Nat) (cy : Nat → ClassId) : XT → va_W := m_wl 6 a (m_shM a cy)
abbrev m_AM (a : Nat → Nat) : Nat → Prop := m_AA 6 a
theorem m_shC_gen {a : Nat → Nat} {cy : Nat → ClassId} {k : Nat} (hk : k < 6) (j : Nat) (hj : j < 21) (f : Nat → Int32) : m_shC a cy (21 * k + j) f = m_shL a cy (21 * k) j f := by
  unfold m_shC
  rw [if_pos (by omega), show (21 * k + j) / 21 * 21 = 21 * k by omega, show (21 * k + j) % 21 = j by omega]
section MWL
variable {a : Nat → Nat} {cy : Nat → ClassId} {X : XT}
theorem mC_0 : (m_WC a cy X)[0]? = some (a 0, .inr (3, [.ref (a (1)), .ref (a (10)), .ref (a (15)), .ref (a (17)), .ref (a (19)), .ref (a (20)), .int (X 0 6), .int (X 0 7), .int (X 0 8), .int (X 0 9), .int (X 0 10), .int (X 0 11)])) := m_wl_at (Nat.le_of_ble_eq_true rfl)
theorem mC_1 : (m_WC a cy X)[1]? = some (a 1, .inr (0, [.ref (a (2)), .ref (a (3)), .ref (a (4)), .ref (a (5)), .ref (a (6)), .ref (a (7)), .ref (a (8)), .ref (a (9)), .int (X 1 8)])) := m_wl_at (Nat.le_of_ble_eq_true rfl)
theorem mC_2 : (m_WC a cy X)[2]? = some (a 2, .inl (cy 0, 150, .inl (X 2))) := m_wl_at (Nat.le_of_ble_eq_true rfl)
theorem mC_3 : (m_WC a cy X)[3]? = some (a 3, .inl (cy 0, 150, .inl (X 3))) := m_wl_at (Nat.le_of_ble_eq_true rfl)
theorem mC_4 : (m_WC a cy X)[4]? = some (a 4, .inl (cy 1, 150, .inl (X 4))) := m_wl_at (Nat.le_of_ble_eq_true rfl)
theorem mC_5 : (m_WC a cy X)[5]? = some (a 5, .inl (cy 0, 150, .inl (X 5))) := m_wl_at (Nat.le_of_ble_eq_true rfl)
theorem mC_6 : (m_WC a cy X)[6]? = some (a 6, .inl (cy 0, 150, .inl (X 6))) := m_wl_at (Nat.le_of_ble_eq_true rfl)
theorem mC_7 : (m_WC a cy X)[7]? = some (a 7, .inl (cy 0, 150, .inl (X 7))) := m_wl_at (Nat.le_of_ble_eq_true rfl)
theorem mC_8 : (m_WC a cy X)[8]? = some (a 8, .inl (cy 0, 150, .inl (X 8))) := m_wl_at (Nat.le_of_ble_eq_true rfl)
theorem mC_9 : (m_WC a cy X)[9]? = some (a 9, .inl (cy 1, 150, .inl (X 9))) := m_wl_at (Nat.le_of_ble_eq_true rfl)
theorem mC_10 : (m_WC a cy X)[10]? = some (a 10, .inr (1, [.ref (a (11)), .ref (a (12)), .ref (a (13)), .ref (a (14)), .int (X 10 4)])) := m_wl_at (Nat.le_of_ble_eq_true rfl)
theorem mC_11 : (m_WC a cy X)[11]? = some (a 11, .inl (cy 0, 150, .inl (X 11))) := m_wl_at (Nat.le_of_ble_eq_true rfl)
theorem mC_12 : (m_WC a cy X)[12]? = some (a 12, .inl (cy 0, 150, .inl (X 12))) := m_wl_at (Nat.le_of_ble_eq_true rfl)
theorem mC_13 : (m_WC a cy X)[13]? = some (a 13, .inl (cy 0, 150, .inl (X 13))) := m_wl_at (Nat.le_of_ble_eq_true rfl)
theorem mC_14 : (m_WC a cy X)[14]? = some (a 14, .inl (cy 0, 150, .inl (X 14))) := m_wl_at (Nat.le_of_ble_eq_true rfl)
theorem mC_15 : (m_WC a cy X)[15]? = some (a 15, .inr (4, [.ref (a (16)), .int (X 15 1), .int (X 15 2)])) := m_wl_at (Nat.le_of_ble_eq_true rfl)
theorem mC_16 : (m_WC a cy X)[16]? = some (a 16, .inl (cy 0, 150, .inl (X 16))) := m_wl_at (Nat.le_of_ble_eq_true rfl)
theorem mC_17 : (m_WC a cy X)[17]? = some (a 17, .inr (6, [.ref (a (18))])) := m_wl_at (Nat.le_of_ble_eq_true rfl)
theorem mC_18 : (m_WC a cy X)[18]? = some (a 18, .inl (cy 0, 4, .inl (X 18))) := m_wl_at (Nat.le_of_ble_eq_true rfl)
theorem mC_19 : (m_WC a cy X)[19]? = some (a 19, .inl (cy 0, 8, .inl (X 19))) := m_wl_at (Nat.le_of_ble_eq_true rfl)
theorem mC_20 : (m_WC a cy X)[20]? = some (a 20, .inl (cy 0, 12, .inl (X 20))) := m_wl_at (Nat.le_of_ble_eq_true rfl)
theorem mC_126 : (m_WC a cy X)[126]? = some (a 126, .inr (7, [.ref (a 0), .ref (a 21), .ref (a 127), .ref (a 129), .int (X 126 4)])) := m_wl_at (Nat.le_of_ble_eq_true rfl)
theorem mC_127 : (m_WC a cy X)[127]? = some (a 127, .inr (2, [.ref (a 128), .int (X 127 1), .int (X 127 2)])) := m_wl_at (Nat.le_of_ble_eq_true rfl)
theorem mC_128 : (m_WC a cy X)[128]? = some (a 128, .inl (cy 3, 4, .inr (.inr (.inr (.inr (fun j => some (a (21 * (2 + j))))))))) := m_wl_at (Nat.le_of_ble_eq_true rfl)
theorem mC_129 : (m_WC a cy X)[129]? = some (a 129, .inr (5, [.ref (a 130), .int (X 129 1), .int (X 129 2), .int (X 129 3), .int (X 129 4), .int (X 129 5), .int (X 129 6)])) := m_wl_at (Nat.le_of_ble_eq_true rfl)
theorem mC_130 : (m_WC a cy X)[130]? = some (a 130, .inl (cy 2, 80, .inl (X 130))) := m_wl_at (Nat.le_of_ble_eq_true rfl)
theorem mC_0_6 {x : Int32} : (m_WC a cy X).set 0 (a 0, .inr (3, [.ref (a (1)), .ref (a (10)), .ref (a (15)), .ref (a (17)), .ref (a (19)), .ref (a (20)), .int (X 0 6), .int (X 0 7), .int (X 0 8), .int (X 0 9), .int (X 0 10), .int (X 0 11)].set 6 (.int x))) = m_WC a cy (m_up X 0 (upd (X 0) 6 x)) := m_wl_set (Nat.le_of_ble_eq_true rfl) rfl
theorem mC_0_7 {x : Int32} : (m_WC a cy X).set 0 (a 0, .inr (3, [.ref (a (1)), .ref (a (10)), .ref (a (15)), .ref (a (17)), .ref (a (19)), .ref (a (20)), .int (X 0 6), .int (X 0 7), .int (X 0 8), .int (X 0 9), .int (X 0 10), .int (X 0 11)].set 7 (.int x))) = m_WC a cy (m_up X 0 (upd (X 0) 7 x)) := m_wl_set (Nat.le_of_ble_eq_true rfl) rfl
theorem mC_0_8 {x : Int32} : (m_WC a cy X).set 0 (a 0, .inr (3, [.ref (a (1)), .ref (a (10)), .ref (a (15)), .ref (a (17)), .ref (a (19)), .ref (a (20)), .int (X 0 6), .int (X 0 7), .int (X 0 8), .int (X 0 9), .int (X 0 10), .int (X 0 11)].set 8 (.int x))) = m_WC a cy (m_up X 0 (upd (X 0) 8 x)) := m_wl_set (Nat.le_of_ble_eq_true rfl) rfl
theorem mC_0_9 {x : Int32} : (m_WC a cy X).set 0 (a 0, .inr (3, [.ref (a (1)), .ref (a (10)), .ref (a (15)), .ref (a (17)), .ref (a (19)), .ref (a (20)), .int (X 0 6), .int (X 0 7), .int (X 0 8), .int (X 0 9), .int (X 0 10), .int (X 0 11)].set 9 (.int x))) = m_WC a cy (m_up X 0 (upd (X 0) 9 x)) := m_wl_set (Nat.le_of_ble_eq_true rfl) rfl
theorem mC_0_10 {x : Int32} : (m_WC a cy X).set 0 (a 0, .inr (3, [.ref (a (1)), .ref (a (10)), .ref (a (15)), .ref (a (17)), .ref (a (19)), .ref (a (20)), .int (X 0 6), .int (X 0 7), .int (X 0 8), .int (X 0 9), .int (X 0 10), .int (X 0 11)].set 10 (.int x))) = m_WC a cy (m_up X 0 (upd (X 0) 10 x)) := m_wl_set (Nat.le_of_ble_eq_true rfl) rfl
theorem mC_0_11 {x : Int32} : (m_WC a cy X).set 0 (a 0, .inr (3, [.ref (a (1)), .ref (a (10)), .ref (a (15)), .ref (a (17)), .ref (a (19)), .ref (a (20)), .int (X 0 6), .int (X 0 7), .int (X 0 8), .int (X 0 9), .int (X 0 10), .int (X 0 11)].set 11 (.int x))) = m_WC a cy (m_up X 0 (upd (X 0) 11 x)) := m_wl_set (Nat.le_of_ble_eq_true rfl) rfl
theorem mC_1_8 {x : Int32} : (m_WC a cy X).set 1 (a 1, .inr (0, [.ref (a (2)), .ref (a (3)), .ref (a (4)), .ref (a (5)), .ref (a (6)), .ref (a (7)), .ref (a (8)), .ref (a (9)), .int (X 1 8)].set 8 (.int x))) = m_WC a cy (m_up X 1 (upd (X 1) 8 x)) := m_wl_set (Nat.le_of_ble_eq_true rfl) rfl
theorem mC_10_4 {x : Int32} : (m_WC a cy X).set 10 (a 10, .inr (1, [.ref (a (11)), .ref (a (12)), .ref (a (13)), .ref (a (14)), .int (X 10 4)].set 4 (.int x))) = m_WC a cy (m_up X 10 (upd (X 10) 4 x)) := m_wl_set (Nat.le_of_ble_eq_true rfl) rfl
theorem mC_15_1 {x : Int32} : (m_WC a cy X).set 15 (a 15, .inr (4, [.ref (a (16)), .int (X 15 1), .int (X 15 2)].set 1 (.int x))) = m_WC a cy (m_up X 15 (upd (X 15) 1 x)) := m_wl_set (Nat.le_of_ble_eq_true rfl) rfl
theorem mC_15_2 {x : Int32} : (m_WC a cy X).set 15 (a 15, .inr (4, [.ref (a (16)), .int (X 15 1), .int (X 15 2)].set 2 (.int x))) = m_WC a cy (m_up X 15 (upd (X 15) 2 x)) := m_wl_set (Nat.le_of_ble_eq_true rfl) rfl
theorem mC_126_4 {x : Int32} : (m_WC a cy X).set 126 (a 126, .inr (7, [.ref (a 0), .ref (a 21), .ref (a 127), .ref (a 129), .int (X 126 4)].set 4 (.int x))) = m_WC a cy (m_up X 126 (upd (X 126) 4 x)) := m_wl_set (Nat.le_of_ble_eq_true rfl) rfl
theorem mC_127_1 {x : Int32} : (m_WC a cy X).set 127 (a 127, .inr (2, [.ref (a 128), .int (X 127 1), .int (X 127 2)].set 1 (.int x))) = m_WC a cy (m_up X 127 (upd (X 127) 1 x)) := m_wl_set (Nat.le_of_ble_eq_true rfl) rfl
theorem mC_127_2 {x : Int32} : (m_WC a cy X).set 127 (a 127, .inr (2, [.ref (a 128), .int (X 127 1), .int (X 127 2)].set 2 (.int x))) = m_WC a cy (m_up X 127 (upd (X 127) 2 x)) := m_wl_set (Nat.le_of_ble_eq_true rfl) rfl
theorem mC_129_1 {x : Int32} : (m_WC a cy X).set 129 (a 129, .inr (5, [.ref (a 130), .int (X 129 1), .int (X 129 2), .int (X 129 3), .int (X 129 4), .int (X 129 5), .int (X 129 6)].set 1 (.int x))) = m_WC a cy (m_up X 129 (upd (X 129) 1 x)) := m_wl_set (Nat.le_of_ble_eq_true rfl) rfl
theorem mC_129_2 {x : Int32} : (m_WC a cy X).set 129 (a 129, .inr (5, [.ref (a 130), .int (X 129 1), .int (X 129 2), .int (X 129 3), .int (X 129 4), .int (X 129 5), .int (X 129 6)].set 2 (.int x))) = m_WC a cy (m_up X 129 (upd (X 129) 2 x)) := m_wl_set (Nat.le_of_ble_eq_true rfl) rfl
theorem mC_129_3 {x : Int32} : (m_WC a cy X).set 129 (a 129, .inr (5, [.ref (a 130), .int (X 129 1), .int (X 129 2), .int (X 129 3), .int (X 129 4), .int (X 129 5), .int (X 129 6)].set 3 (.int x))) = m_WC a cy (m_up X 129 (upd (X 129) 3 x)) := m_wl_set (Nat.le_of_ble_eq_true rfl) rfl
theorem mC_129_4 {x : Int32} : (m_WC a cy X).set 129 (a 129, .inr (5, [.ref (a 130), .int (X 129 1), .int (X 129 2), .int (X 129 3), .int (X 129 4), .int (X 129 5), .int (X 129 6)].set 4 (.int x))) = m_WC a cy (m_up X 129 (upd (X 129) 4 x)) := m_wl_set (Nat.le_of_ble_eq_true rfl) rfl
theorem mC_129_5 {x : Int32} : (m_WC a cy X).set 129 (a 129, .inr (5, [.ref (a 130), .int (X 129 1), .int (X 129 2), .int (X 129 3), .int (X 129 4), .int (X 129 5), .int (X 129 6)].set 5 (.int x))) = m_WC a cy (m_up X 129 (upd (X 129) 5 x)) := m_wl_set (Nat.le_of_ble_eq_true rfl) rfl
theorem mC_129_6 {x : Int32} : (m_WC a cy X).set 129 (a 129, .inr (5, [.ref (a 130), .int (X 129 1), .int (X 129 2), .int (X 129 3), .int (X 129 4), .int (X 129 5), .int (X 129 6)].set 6 (.int x))) = m_WC a cy (m_up X 129 (upd (X 129) 6 x)) := m_wl_set (Nat.le_of_ble_eq_true rfl) rfl
theorem mCs_2 (g : Nat → Int32) : (m_WC a cy X).set 2 (a 2, .inl (cy 0, 150, .inl g)) = m_WC a cy (m_up X 2 g) := m_wl_set (Nat.le_of_ble_eq_true rfl) rfl
theorem mCs_3 (g : Nat → Int32) : (m_WC a cy X).set 3 (a 3, .inl (cy 0, 150, .inl g)) = m_WC a cy (m_up X 3 g) := m_wl_set (Nat.le_of_ble_eq_true rfl) rfl
theorem mCs_4 (g : Nat → Int32) : (m_WC a cy X).set 4 (a 4, .inl (cy 1, 150, .inl g)) = m_WC a cy (m_up X 4 g) := m_wl_set (Nat.le_of_ble_eq_true rfl) rfl
theorem mCs_5 (g : Nat → Int32) : (m_WC a cy X).set 5 (a 5, .inl (cy 0, 150, .inl g)) = m_WC a cy (m_up X 5 g) := m_wl_set (Nat.le_of_ble_eq_true rfl) rfl
theorem mCs_6 (g : Nat → Int32) : (m_WC a cy X).set 6 (a 6, .inl (cy 0, 150, .inl g)) = m_WC a cy (m_up X 6 g) := m_wl_set (Nat.le_of_ble_eq_true rfl) rfl
theorem mCs_7 (g : Nat → Int32) : (m_WC a cy X).set 7 (a 7, .inl (cy 0, 150, .inl g)) = m_WC a cy (m_up X 7 g) := m_wl_set (Nat.le_of_ble_eq_true rfl) rfl
theorem mCs_8 (g : Nat → Int32) : (m_WC a cy X).set 8 (a 8, .inl (cy 0, 150, .inl g)) = m_WC a cy (m_up X 8 g) := m_wl_set (Nat.le_of_ble_eq_true rfl) rfl
theorem mCs_9 (g : Nat → Int32) : (m_WC a cy X).set 9 (a 9, .inl (cy 1, 150, .inl g)) = m_WC a cy (m_up X 9 g) := m_wl_set (Nat.le_of_ble_eq_true rfl) rfl
theorem mCs_11 (g : Nat → Int32) : (m_WC a cy X).set 11 (a 11, .inl (cy 0, 150, .inl g)) = m_WC a cy (m_up X 11 g) := m_wl_set (Nat.le_of_ble_eq_true rfl) rfl
theorem mCs_12 (g : Nat → Int32) : (m_WC a cy X).set 12 (a 12, .inl (cy 0, 150, .inl g)) = m_WC a cy (m_up X 12 g) := m_wl_set (Nat.le_of_ble_eq_true rfl) rfl
theorem mCs_13 (g : Nat → Int32) : (m_WC a cy X).set 13 (a 13, .inl (cy 0, 150, .inl g)) = m_WC a cy (m_up X 13 g) := m_wl_set (Nat.le_of_ble_eq_true rfl) rfl
theorem mCs_14 (g : Nat → Int32) : (m_WC a cy X).set 14 (a 14, .inl (cy 0, 150, .inl g)) = m_WC a cy (m_up X 14 g) := m_wl_set (Nat.le_of_ble_eq_true rfl) rfl
theorem mCs_16 (g : Nat → Int32) : (m_WC a cy X).set 16 (a 16, .inl (cy 0, 150, .inl g)) = m_WC a cy (m_up X 16 g) := m_wl_set (Nat.le_of_ble_eq_true rfl) rfl
theorem mCs_18 (g : Nat → Int32) : (m_WC a cy X).set 18 (a 18, .inl (cy 0, 4, .inl g)) = m_WC a cy (m_up X 18 g) := m_wl_set (Nat.le_of_ble_eq_true rfl) rfl
theorem mCs_19 (g : Nat → Int32) : (m_WC a cy X).set 19 (a 19, .inl (cy 0, 8, .inl g)) = m_WC a cy (m_up X 19 g) := m_wl_set (Nat.le_of_ble_eq_true rfl) rfl
theorem mCs_20 (g : Nat → Int32) : (m_WC a cy X).set 20 (a 20, .inl (cy 0, 12, .inl g)) = m_WC a cy (m_up X 20 g) := m_wl_set (Nat.le_of_ble_eq_true rfl) rfl
theorem mCs_130 (g : Nat → Int32) : (m_WC a cy X).set 130 (a 130, .inl (cy 2, 80, .inl g)) = m_WC a cy (m_up X 130 g) := m_wl_set (Nat.le_of_ble_eq_true rfl) rfl
theorem mK_0 {k : Nat} (hk : k < 6) : (m_WC a cy X)[21 * k + 0]? = some (a (21 * k + 0), .inr (3, [.ref (a (21 * k + 1)), .ref (a (21 * k + 10)), .ref (a (21 * k + 15)), .ref (a (21 * k + 17)), .ref (a (21 * k + 19)), .ref (a (21 * k + 20)), .int ((X (21 * k + 0)) 6), .int ((X (21 * k + 0)) 7), .int ((X (21 * k + 0)) 8), .int ((X (21 * k + 0)) 9), .int ((X (21 * k + 0)) 10), .int ((X (21 * k + 0)) 11)])) := (m_wl_at (by omega)).trans (congrArg (fun e => some (a (21 * k + 0), e)) (m_shC_gen hk 0 (by decide) _))
theorem mK_1 {k : Nat} (hk : k < 6) : (m_WC a cy X)[21 * k + 1]? = some (a (21 * k + 1), .inr (0, [.ref (a (21 * k + 2)), .ref (a (21 * k + 3)), .ref (a (21 * k + 4)), .ref (a (21 * k + 5)), .ref (a (21 * k + 6)), .ref (a (21 * k + 7)), .ref (a (21 * k + 8)), .ref (a (21 * k + 9)), .int ((X (21 * k + 1)) 8)])) := (m_wl_at (by omega)).trans (congrArg (fun e => some (a (21 * k + 1), e)) (m_shC_gen hk 1 (by decide) _))
theorem mK_2 {k : Nat} (hk : k < 6) : (m_WC a cy X)[21 * k + 2]? = some (a (21 * k + 2), .inl (cy 0, 150, .inl (X (21 * k + 2)))) := (m_wl_at (by omega)).trans (congrArg (fun e => some (a (21 * k + 2), e)) (m_shC_gen hk 2 (by decide) _))
theorem mK_3 {k : Nat} (hk : k < 6) : (m_WC a cy X)[21 * k + 3]? = some (a (21 * k + 3), .inl (cy 0, 150, .inl (X (21 * k + 3)))) := (m_wl_at (by omega)).trans (congrArg (fun e => some (a (21 * k + 3), e)) (m_shC_gen hk 3 (by decide) _))
theorem mK_4 {k : Nat} (hk : k < 6) : (m_WC a cy X)[21 * k + 4]? = some (a (21 * k + 4), .inl (cy 1, 150, .inl (X (21 * k + 4)))) := (m_wl_at (by omega)).trans (congrArg (fun e => some (a (21 * k + 4), e)) (m_shC_gen hk 4 (by decide) _))
theorem mK_5 {k : Nat} (hk : k < 6) : (m_WC a cy X)[21 * k + 5]? = some (a (21 * k + 5), .inl (cy 0, 150, .inl (X (21 * k + 5)))) := (m_wl_at (by omega)).trans (congrArg (fun e => some (a (21 * k + 5), e)) (m_shC_gen hk 5 (by decide) _))
theorem mK_6 {k : Nat} (hk : k < 6) : (m_WC a cy X)[21 * k + 6]? = some (a (21 * k + 6), .inl (cy 0, 150, .inl (X (21 * k + 6)))) := (m_wl_at (by omega)).trans (congrArg (fun e => some (a (21 * k + 6), e)) (m_shC_gen hk 6 (by decide) _))
theorem mK_7 {k : Nat} (hk : k < 6) : (m_WC a cy X)[21 * k + 7]? = some (a (21 * k + 7), .inl (cy 0, 150, .inl (X (21 * k + 7)))) := (m_wl_at (by omega)).trans (congrArg (fun e => some (a (21 * k + 7), e)) (m_shC_gen hk 7 (by decide) _))
theorem mK_8 {k : Nat} (hk : k < 6) : (m_WC a cy X)[21 * k + 8]? = some (a (21 * k + 8), .inl (cy 0, 150, .inl (X (21 * k + 8)))) := (m_wl_at (by omega)).trans (congrArg (fun e => some (a (21 * k + 8), e)) (m_shC_gen hk 8 (by decide) _))
theorem mK_9 {k : Nat} (hk : k < 6) : (m_WC a cy X)[21 * k + 9]? = some (a (21 * k + 9), .inl (cy 1, 150, .inl (X (21 * k + 9)))) := (m_wl_at (by omega)).trans (congrArg (fun e => some (a (21 * k + 9), e)) (m_shC_gen hk 9 (by decide) _))
theorem mK_10 {k : Nat} (hk : k < 6) : (m_WC a cy X)[21 * k + 10]? = some (a (21 * k + 10), .inr (1, [.ref (a (21 * k + 11)), .ref (a (21 * k + 12)), .ref (a (21 * k + 13)), .ref (a (21 * k + 14)), .int ((X (21 * k + 10)) 4)])) := (m_wl_at (by omega)).trans (congrArg (fun e => some (a (21 * k + 10), e)) (m_shC_gen hk 10 (by decide) _))
theorem mK_11 {k : Nat} (hk : k < 6) : (m_WC a cy X)[21 * k + 11]? = some (a (21 * k + 11), .inl (cy 0, 150, .inl (X (21 * k + 11)))) := (m_wl_at (by omega)).trans (congrArg (fun e => some (a (21 * k + 11), e)) (m_shC_gen hk 11 (by decide) _))
theorem mK_12 {k : Nat} (hk : k < 6) : (m_WC a cy X)[21 * k + 12]? = some (a (21 * k + 12), .inl (cy 0, 150, .inl (X (21 * k + 12)))) := (m_wl_at (by omega)).trans (congrArg (fun e => some (a (21 * k + 12), e)) (m_shC_gen hk 12 (by decide) _))
theorem mK_13 {k : Nat} (hk : k < 6) : (m_WC a cy X)[21 * k + 13]? = some (a (21 * k + 13), .inl (cy 0, 150, .inl (X (21 * k + 13)))) := (m_wl_at (by omega)).trans (congrArg (fun e => some (a (21 * k + 13), e)) (m_shC_gen hk 13 (by decide) _))
theorem mK_14 {k : Nat} (hk : k < 6) : (m_WC a cy X)[21 * k + 14]? = some (a (21 * k + 14), .inl (cy 0, 150, .inl (X (21 * k + 14)))) := (m_wl_at (by omega)).trans (congrArg (fun e => some (a (21 * k + 14), e)) (m_shC_gen hk 14 (by decide) _))
theorem mK_15 {k : Nat} (hk : k < 6) : (m_WC a cy X)[21 * k + 15]? = some (a (21 * k + 15), .inr (4, [.ref (a (21 * k + 16)), .int ((X (21 * k + 15)) 1), .int ((X (21 * k + 15)) 2)])) := (m_wl_at (by omega)).trans (congrArg (fun e => some (a (21 * k + 15), e)) (m_shC_gen hk 15 (by decide) _))
theorem mK_16 {k : Nat} (hk : k < 6) : (m_WC a cy X)[21 * k + 16]? = some (a (21 * k + 16), .inl (cy 0, 150, .inl (X (21 * k + 16)))) := (m_wl_at (by omega)).trans (congrArg (fun e => some (a (21 * k + 16), e)) (m_shC_gen hk 16 (by decide) _))
theorem mK_17 {k : Nat} (hk : k < 6) : (m_WC a cy X)[21 * k + 17]? = some (a (21 * k + 17), .inr (6, [.ref (a (21 * k + 18))])) := (m_wl_at (by omega)).trans (congrArg (fun e => some (a (21 * k + 17), e)) (m_shC_gen hk 17 (by decide) _))
theorem mK_18 {k : Nat} (hk : k < 6) : (m_WC a cy X)[21 * k + 18]? = some (a (21 * k + 18), .inl (cy 0, 4, .inl (X (21 * k + 18)))) := (m_wl_at (by omega)).trans (congrArg (fun e => some (a (21 * k + 18), e)) (m_shC_gen hk 18 (by decide) _))
theorem mK_19 {k : Nat} (hk : k < 6) : (m_WC a cy X)[21 * k + 19]? = some (a (21 * k + 19), .inl (cy 0, 8, .inl (X (21 * k + 19)))) := (m_wl_at (by omega)).trans (congrArg (fun e => some (a (21 * k + 19), e)) (m_shC_gen hk 19 (by decide) _))
theorem mK_20 {k : Nat} (hk : k < 6) : (m_WC a cy X)[21 * k + 20]? = some (a (21 * k + 20), .inl (cy 0, 12, .inl (X (21 * k + 20)))) := (m_wl_at (by omega)).trans (congrArg (fun e => some (a (21 * k + 20), e)) (m_shC_gen hk 20 (by decide) _))
theorem mK_0_6 {k : Nat} (hk : k < 6) {x : Int32} : (m_WC a cy X).set (21 * k + 0) (a (21 * k + 0), .inr (3, [.ref (a (21 * k + 1)), .ref (a (21 * k + 10)), .ref (a (21 * k + 15)), .ref (a (21 * k + 17)), .ref (a (21 * k + 19)), .ref (a (21 * k + 20)), .int ((X (21 * k + 0)) 6), .int ((X (21 * k + 0)) 7), .int ((X (21 * k + 0)) 8), .int ((X (21 * k + 0)) 9), .int ((X (21 * k + 0)) 10), .int ((X (21 * k + 0)) 11)].set 6 (.int x))) = m_WC a cy (m_up X (21 * k + 0) (upd (X (21 * k + 0)) 6 x)) := m_wl_set (by omega) ((m_shC_gen hk 0 (by decide) _).trans rfl)
theorem mK_0_7 {k : Nat} (hk : k < 6) {x : Int32} : (m_WC a cy X).set (21 * k + 0) (a (21 * k + 0), .inr (3, [.ref (a (21 * k + 1)), .ref (a (21 * k + 10)), .ref (a (21 * k + 15)), .ref (a (21 * k + 17)), .ref (a (21 * k + 19)), .ref (a (21 * k + 20)), .int ((X (21 * k + 0)) 6), .int ((X (21 * k + 0)) 7), .int ((X (21 * k + 0)) 8), .int ((X (21 * k + 0)) 9), .int ((X (21 * k + 0)) 10), .int ((X (21 * k + 0)) 11)].set 7 (.int x))) = m_WC a cy (m_up X (21 * k + 0) (upd (X (21 * k + 0)) 7 x)) := m_wl_set (by omega) ((m_shC_gen hk 0 (by decide) _).trans rfl)
theorem mK_0_8 {k : Nat} (hk : k < 6) {x : Int32} : (m_WC a cy X).set (21 * k + 0) (a (21 * k + 0), .inr (3, [.ref (a (21 * k + 1)), .ref (a (21 * k + 10)), .ref (a (21 * k + 15)), .ref (a (21 * k + 17)), .ref (a (21 * k + 19)), .ref (a (21 * k + 20)), .int ((X (21 * k + 0)) 6), .int ((X (21 * k + 0)) 7), .int ((X (21 * k + 0)) 8), .int ((X (21 * k + 0)) 9), .int ((X (21 * k + 0)) 10), .int ((X (21 * k + 0)) 11)].set 8 (.int x))) = m_WC a cy (m_up X (21 * k + 0) (upd (X (21 * k + 0)) 8 x)) := m_wl_set (by omega) ((m_shC_gen hk 0 (by decide) _).trans rfl)
theorem mK_0_9 {k : Nat} (hk : k < 6) {x : Int32} : (m_WC a cy X).set (21 * k + 0) (a (21 * k + 0), .inr (3, [.ref (a (21 * k + 1)), .ref (a (21 * k + 10)), .ref (a (21 * k + 15)), .ref (a (21 * k + 17)), .ref (a (21 * k + 19)), .ref (a (21 * k + 20)), .int ((X (21 * k + 0)) 6), .int ((X (21 * k + 0)) 7), .int ((X (21 * k + 0)) 8), .int ((X (21 * k + 0)) 9), .int ((X (21 * k + 0)) 10), .int ((X (21 * k + 0)) 11)].set 9 (.int x))) = m_WC a cy (m_up X (21 * k + 0) (upd (X (21 * k + 0)) 9 x)) := m_wl_set (by omega) ((m_shC_gen hk 0 (by decide) _).trans rfl)
theorem mK_0_10 {k : Nat} (hk : k < 6) {x : Int32} : (m_WC a cy X).set (21 * k + 0) (a (21 * k + 0), .inr (3, [.ref (a (21 * k + 1)), .ref (a (21 * k + 10)), .ref (a (21 * k + 15)), .ref (a (21 * k + 17)), .ref (a (21 * k + 19)), .ref (a (21 * k + 20)), .int ((X (21 * k + 0)) 6), .int ((X (21 * k + 0)) 7), .int ((X (21 * k + 0)) 8), .int ((X (21 * k + 0)) 9), .int ((X (21 * k + 0)) 10), .int ((X (21 * k + 0)) 11)].set 10 (.int x))) = m_WC a cy (m_up X (21 * k + 0) (upd (X (21 * k + 0)) 10 x)) := m_wl_set (by omega) ((m_shC_gen hk 0 (by decide) _).trans rfl)
theorem mK_0_11 {k : Nat} (hk : k < 6) {x : Int32} : (m_WC a cy X).set (21 * k + 0) (a (21 * k + 0), .inr (3, [.ref (a (21 * k + 1)), .ref (a (21 * k + 10)), .ref (a (21 * k + 15)), .ref (a (21 * k + 17)), .ref (a (21 * k + 19)), .ref (a (21 * k + 20)), .int ((X (21 * k + 0)) 6), .int ((X (21 * k + 0)) 7), .int ((X (21 * k + 0)) 8), .int ((X (21 * k + 0)) 9), .int ((X (21 * k + 0)) 10), .int ((X (21 * k + 0)) 11)].set 11 (.int x))) = m_WC a cy (m_up X (21 * k + 0) (upd (X (21 * k + 0)) 11 x)) := m_wl_set (by omega) ((m_shC_gen hk 0 (by decide) _).trans rfl)
theorem mK_1_8 {k : Nat} (hk : k < 6) {x : Int32} : (m_WC a cy X).set (21 * k + 1) (a (21 * k + 1), .inr (0, [.ref (a (21 * k + 2)), .ref (a (21 * k + 3)), .ref (a (21 * k + 4)), .ref (a (21 * k + 5)), .ref (a (21 * k + 6)), .ref (a (21 * k + 7)), .ref (a (21 * k + 8)), .ref (a (21 * k + 9)), .int ((X (21 * k + 1)) 8)].set 8 (.int x))) = m_WC a cy (m_up X (21 * k + 1) (upd (X (21 * k + 1)) 8 x)) := m_wl_set (by omega) ((m_shC_gen hk 1 (by decide) _).trans rfl)
theorem mK_10_4 {k : Nat} (hk : k < 6) {x : Int32} : (m_WC a cy X).set (21 * k + 10) (a (21 * k + 10), .inr (1, [.ref (a (21 * k + 11)), .ref (a (21 * k + 12)), .ref (a (21 * k + 13)), .ref (a (21 * k + 14)), .int ((X (21 * k + 10)) 4)].set 4 (.int x))) = m_WC a cy (m_up X (21 * k + 10) (upd (X (21 * k + 10)) 4 x)) := m_wl_set (by omega) ((m_shC_gen hk 10 (by decide) _).trans rfl)
theorem mK_15_1 {k : Nat} (hk : k < 6) {x : Int32} : (m_WC a cy X).set (21 * k + 15) (a (21 * k + 15), .inr (4, [.ref (a (21 * k + 16)), .int ((X (21 * k + 15)) 1), .int ((X (21 * k + 15)) 2)].set 1 (.int x))) = m_WC a cy (m_up X (21 * k + 15) (upd (X (21 * k + 15)) 1 x)) := m_wl_set (by omega) ((m_shC_gen hk 15 (by decide) _).trans rfl)
theorem mK_15_2 {k : Nat} (hk : k < 6) {x : Int32} : (m_WC a cy X).set (21 * k + 15) (a (21 * k + 15), .inr (4, [.ref (a (21 * k + 16)), .int ((X (21 * k + 15)) 1), .int ((X (21 * k + 15)) 2)].set 2 (.int x))) = m_WC a cy (m_up X (21 * k + 15) (upd (X (21 * k + 15)) 2 x)) := m_wl_set (by omega) ((m_shC_gen hk 15 (by decide) _).trans rfl)
theorem mKs_2 {k : Nat} (hk : k < 6) (g : Nat → Int32) : (m_WC a cy X).set (21 * k + 2) (a (21 * k + 2), .inl (cy 0, 150, .inl g)) = m_WC a cy (m_up X (21 * k + 2) g) := m_wl_set (by omega) (m_shC_gen hk 2 (by decide) _)
theorem mKs_3 {k : Nat} (hk : k < 6) (g : Nat → Int32) : (m_WC a cy X).set (21 * k + 3) (a (21 * k + 3), .inl (cy 0, 150, .inl g)) = m_WC a cy (m_up X (21 * k + 3) g) := m_wl_set (by omega) (m_shC_gen hk 3 (by decide) _)
theorem mKs_4 {k : Nat} (hk : k < 6) (g : Nat → Int32) : (m_WC a cy X).set (21 * k + 4) (a (21 * k + 4), .inl (cy 1, 150, .inl g)) = m_WC a cy (m_up X (21 * k + 4) g) := m_wl_set (by omega) (m_shC_gen hk 4 (by decide) _)
theorem mKs_5 {k : Nat} (hk : k < 6) (g : Nat → Int32) : (m_WC a cy X).set (21 * k + 5) (a (21 * k + 5), .inl (cy 0, 150, .inl g)) = m_WC a cy (m_up X (21 * k + 5) g) := m_wl_set (by omega) (m_shC_gen hk 5 (by decide) _)
theorem mKs_6 {k : Nat} (hk : k < 6) (g : Nat → Int32) : (m_WC a cy X).set (21 * k + 6) (a (21 * k + 6), .inl (cy 0, 150, .inl g)) = m_WC a cy (m_up X (21 * k + 6) g) := m_wl_set (by omega) (m_shC_gen hk 6 (by decide) _)
theorem mKs_7 {k : Nat} (hk : k < 6) (g : Nat → Int32) : (m_WC a cy X).set (21 * k + 7) (a (21 * k + 7), .inl (cy 0, 150, .inl g)) = m_WC a cy (m_up X (21 * k + 7) g) := m_wl_set (by omega) (m_shC_gen hk 7 (by decide) _)
theorem mKs_8 {k : Nat} (hk : k < 6) (g : Nat → Int32) : (m_WC a cy X).set (21 * k + 8) (a (21 * k + 8), .inl (cy 0, 150, .inl g)) = m_WC a cy (m_up X (21 * k + 8) g) := m_wl_set (by omega) (m_shC_gen hk 8 (by decide) _)
theorem mKs_9 {k : Nat} (hk : k < 6) (g : Nat → Int32) : (m_WC a cy X).set (21 * k + 9) (a (21 * k + 9), .inl (cy 1, 150, .inl g)) = m_WC a cy (m_up X (21 * k + 9) g) := m_wl_set (by omega) (m_shC_gen hk 9 (by decide) _)
theorem mKs_11 {k : Nat} (hk : k < 6) (g : Nat → Int32) : (m_WC a cy X).set (21 * k + 11) (a (21 * k + 11), .inl (cy 0, 150, .inl g)) = m_WC a cy (m_up X (21 * k + 11) g) := m_wl_set (by omega) (m_shC_gen hk 11 (by decide) _)
theorem mKs_12 {k : Nat} (hk : k < 6) (g : Nat → Int32) : (m_WC a cy X).set (21 * k + 12) (a (21 * k + 12), .inl (cy 0, 150, .inl g)) = m_WC a cy (m_up X (21 * k + 12) g) := m_wl_set (by omega) (m_shC_gen hk 12 (by decide) _)
theorem mKs_13 {k : Nat} (hk : k < 6) (g : Nat → Int32) : (m_WC a cy X).set (21 * k + 13) (a (21 * k + 13), .inl (cy 0, 150, .inl g)) = m_WC a cy (m_up X (21 * k + 13) g) := m_wl_set (by omega) (m_shC_gen hk 13 (by decide) _)
theorem mKs_14 {k : Nat} (hk : k < 6) (g : Nat → Int32) : (m_WC a cy X).set (21 * k + 14) (a (21 * k + 14), .inl (cy 0, 150, .inl g)) = m_WC a cy (m_up X (21 * k + 14) g) := m_wl_set (by omega) (m_shC_gen hk 14 (by decide) _)
theorem mKs_16 {k : Nat} (hk : k < 6) (g : Nat → Int32) : (m_WC a cy X).set (21 * k + 16) (a (21 * k + 16), .inl (cy 0, 150, .inl g)) = m_WC a cy (m_up X (21 * k + 16) g) := m_wl_set (by omega) (m_shC_gen hk 16 (by decide) _)
theorem mKs_18 {k : Nat} (hk : k < 6) (g : Nat → Int32) : (m_WC a cy X).set (21 * k + 18) (a (21 * k + 18), .inl (cy 0, 4, .inl g)) = m_WC a cy (m_up X (21 * k + 18) g) := m_wl_set (by omega) (m_shC_gen hk 18 (by decide) _)
theorem mKs_19 {k : Nat} (hk : k < 6) (g : Nat → Int32) : (m_WC a cy X).set (21 * k + 19) (a (21 * k + 19), .inl (cy 0, 8, .inl g)) = m_WC a cy (m_up X (21 * k + 19) g) := m_wl_set (by omega) (m_shC_gen hk 19 (by decide) _)
theorem mKs_20 {k : Nat} (hk : k < 6) (g : Nat → Int32) : (m_WC a cy X).set (21 * k + 20) (a (21 * k + 20), .inl (cy 0, 12, .inl g)) = m_WC a cy (m_up X (21 * k + 20) g) := m_wl_set (by omega) (m_shC_gen hk 20 (by decide) _)
theorem mM_0 : (m_WM a cy X)[0]? = some (a 0, .inr (8, [.ref (a 1), .ref (a 2), .ref (a 3), .int (X 0 3), .ref (a 4), .int (X 0 5), .ref (a 5), .int (X 0 7), .int (X 0 8), .int (X 0 9), .int (X 0 10), .int (X 0 11), .int (X 0 12)])) := m_wl_at (Nat.le_of_ble_eq_true rfl)
theorem mM_1 : (m_WM a cy X)[1]? = some (a 1, .inl (cy 0, 1816, .inl (X 1))) := m_wl_at (Nat.le_of_ble_eq_true rfl)
theorem mM_2 : (m_WM a cy X)[2]? = some (a 2, .inl (cy 0, 1816, .inl (X 2))) := m_wl_at (Nat.le_of_ble_eq_true rfl)
theorem mM_3 : (m_WM a cy X)[3]? = some (a 3, .inl (cy 0, 7264, .inl (X 3))) := m_wl_at (Nat.le_of_ble_eq_true rfl)
theorem mM_4 : (m_WM a cy X)[4]? = some (a 4, .inl (cy 0, 1816, .inl (X 4))) := m_wl_at (Nat.le_of_ble_eq_true rfl)
theorem mM_5 : (m_WM a cy X)[5]? = some (a 5, .inl (cy 0, 80, .inl (X 5))) := m_wl_at (Nat.le_of_ble_eq_true rfl)
theorem mM_0_3 {x : Int32} : (m_WM a cy X).set 0 (a 0, .inr (8, [.ref (a 1), .ref (a 2), .ref (a 3), .int (X 0 3), .ref (a 4), .int (X 0 5), .ref (a 5), .int (X 0 7), .int (X 0 8), .int (X 0 9), .int (X 0 10), .int (X 0 11), .int (X 0 12)].set 3 (.int x))) = m_WM a cy (m_up X 0 (upd (X 0) 3 x)) := m_wl_set (Nat.le_of_ble_eq_true rfl) rfl
theorem mM_0_5 {x : Int32} : (m_WM a cy X).set 0 (a 0, .inr (8, [.ref (a 1), .ref (a 2), .ref (a 3), .int (X 0 3), .ref (a 4), .int (X 0 5), .ref (a 5), .int (X 0 7), .int (X 0 8), .int (X 0 9), .int (X 0 10), .int (X 0 11), .int (X 0 12)].set 5 (.int x))) = m_WM a cy (m_up X 0 (upd (X 0) 5 x)) := m_wl_set (Nat.le_of_ble_eq_true rfl) rfl
theorem mM_0_7 {x : Int32} : (m_WM a cy X).set 0 (a 0, .inr (8, [.ref (a 1), .ref (a 2), .ref (a 3), .int (X 0 3), .ref (a 4), .int (X 0 5), .ref (a 5), .int (X 0 7), .int (X 0 8), .int (X 0 9), .int (X 0 10), .int (X 0 11), .int (X 0 12)].set 7 (.int x))) = m_WM a cy (m_up X 0 (upd (X 0) 7 x)) := m_wl_set (Nat.le_of_ble_eq_true rfl) rfl
theorem mM_0_8 {x : Int32} : (m_WM a cy X).set 0 (a 0, .inr (8, [.ref (a 1), .ref (a 2), .ref (a 3), .int (X 0 3), .ref (a 4), .int (X 0 5), .ref (a 5), .int (X 0 7), .int (X 0 8), .int (X 0 9), .int (X 0 10), .int (X 0 11), .int (X 0 12)].set 8 (.int x))) = m_WM a cy (m_up X 0 (upd (X 0) 8 x)) := m_wl_set (Nat.le_of_ble_eq_true rfl) rfl
theorem mM_0_9 {x : Int32} : (m_WM a cy X).set 0 (a 0, .inr (8, [.ref (a 1), .ref (a 2), .ref (a 3), .int (X 0 3), .ref (a 4), .int (X 0 5), .ref (a 5), .int (X 0 7), .int (X 0 8), .int (X 0 9), .int (X 0 10), .int (X 0 11), .int (X 0 12)].set 9 (.int x))) = m_WM a cy (m_up X 0 (upd (X 0) 9 x)) := m_wl_set (Nat.le_of_ble_eq_true rfl) rfl
theorem mM_0_10 {x : Int32} : (m_WM a cy X).set 0 (a 0, .inr (8, [.ref (a 1), .ref (a 2), .ref (a 3), .int (X 0 3), .ref (a 4), .int (X 0 5), .ref (a 5), .int (X 0 7), .int (X 0 8), .int (X 0 9), .int (X 0 10), .int (X 0 11), .int (X 0 12)].set 10 (.int x))) = m_WM a cy (m_up X 0 (upd (X 0) 10 x)) := m_wl_set (Nat.le_of_ble_eq_true rfl) rfl
theorem mM_0_11 {x : Int32} : (m_WM a cy X).set 0 (a 0, .inr (8, [.ref (a 1), .ref (a 2), .ref (a 3), .int (X 0 3), .ref (a 4), .int (X 0 5), .ref (a 5), .int (X 0 7), .int (X 0 8), .int (X 0 9), .int (X 0 10), .int (X 0 11), .int (X 0 12)].set 11 (.int x))) = m_WM a cy (m_up X 0 (upd (X 0) 11 x)) := m_wl_set (Nat.le_of_ble_eq_true rfl) rfl
theorem mM_0_12 {x : Int32} : (m_WM a cy X).set 0 (a 0, .inr (8, [.ref (a 1), .ref (a 2), .ref (a 3), .int (X 0 3), .ref (a 4), .int (X 0 5), .ref (a 5), .int (X 0 7), .int (X 0 8), .int (X 0 9), .int (X 0 10), .int (X 0 11), .int (X 0 12)].set 12 (.int x))) = m_WM a cy (m_up X 0 (upd (X 0) 12 x)) := m_wl_set (Nat.le_of_ble_eq_true rfl) rfl
theorem mMs_1 (g : Nat → Int32) : (m_WM a cy X).set 1 (a 1, .inl (cy 0, 1816, .inl g)) = m_WM a cy (m_up X 1 g) := m_wl_set (Nat.le_of_ble_eq_true rfl) rfl
theorem mMs_2 (g : Nat → Int32) : (m_WM a cy X).set 2 (a 2, .inl (cy 0, 1816, .inl g)) = m_WM a cy (m_up X 2 g) := m_wl_set (Nat.le_of_ble_eq_true rfl) rfl
theorem mMs_3 (g : Nat → Int32) : (m_WM a cy X).set 3 (a 3, .inl (cy 0, 7264, .inl g)) = m_WM a cy (m_up X 3 g) := m_wl_set (Nat.le_of_ble_eq_true rfl) rfl
theorem mMs_4 (g : Nat → Int32) : (m_WM a cy X).set 4 (a 4, .inl (cy 0, 1816, .inl g)) = m_WM a cy (m_up X 4 g) := m_wl_set (Nat.le_of_ble_eq_true rfl) rfl
theorem mMs_5 (g : Nat → Int32) : (m_WM a cy X).set 5 (a 5, .inl (cy 0, 80, .inl g)) = m_WM a cy (m_up X 5 g) := m_wl_set (Nat.le_of_ble_eq_true rfl) rfl
end MWL
-- the tables of Settings that nobody writes
def m_least (j : Nat) : Int32 := if j = 1 then 1 else if j = 2 then 1 else 0
def m_greatest (j : Nat) : Int32 := if j = 0 then 20 else if j = 1 then 40 else if j = 2 then 20 else 1
def m_ZC (a : Nat → Nat) (s : State) : Prop := (∃ t : Nat, va_Z "GroupCommits$Settings" "LEAST" "[I" (.ref t) (m_AC a) s s.heap ∧ va_T .int t 4 (fun j => .int (m_least j)) (m_AC a) s s.heap) ∧ (∃ t : Nat, va_Z "GroupCommits$Settings" "GREATEST" "[I" (.ref t) (m_AC a) s s.heap ∧ va_T .int t 4 (fun j => .int (m_greatest j)) (m_AC a) s s.heap)
def m_ZM (_ : State) : Prop := True
theorem m_ZC_keep {a : Nat → Nat} (u U : State) (hvm : u.vm.Alike U.vm) (hq : ∀ q : Nat, q < u.heap.size → ¬ m_AC a q → U.heap[q]? = u.heap[q]?) (h : m_ZC a u) : m_ZC a U := by
  obtain ⟨⟨t1, h1, h2⟩, t2, h3, h4⟩ := h
  exact ⟨⟨t1, (va_Z.moved hvm h1).kept hq, (va_T.moved hvm h2).kept hq⟩, t2, (va_Z.moved hvm h3).kept hq, (va_T.moved hvm h4).kept hq⟩
theorem m_ZM_keep {a : Nat → Nat} (u U : State) (_ : u.vm.Alike U.vm) (_ : ∀ q : Nat, q < u.heap.size → ¬ m_AM a q → U.heap[q]? = u.heap[q]?) (_ : m_ZM u) : m_ZM U := trivial
end
section
-- words of the tables by their places: written by wip/gen/words.py
theorem m_u1 {w : Cond} (h : w ∈ tables_1_1) : w ∈ lw_tbl := List.mem_append_right _ (List.mem_append_left _ h)
theorem m_t1 {w : Cond} (h : w ∈ tables_1_1) (g : goodWord w = true) : w ∈ m_tbl := List.mem_filter.mpr ⟨m_u1 h, g⟩
theorem m_u2 {w : Cond} (h : w ∈ tables_1_2) : w ∈ lw_tbl := List.mem_append_right _ (List.mem_append_right _ (List.mem_append_left _ h))
theorem m_t2 {w : Cond} (h : w ∈ tables_1_2) (g : goodWord w = true) : w ∈ m_tbl := List.mem_filter.mpr ⟨m_u2 h, g⟩
theorem m_u3 {w : Cond} (h : w ∈ tables_1_3) : w ∈ lw_tbl := List.mem_append_right _ (List.mem_append_right _ (List.mem_append_right _ (List.mem_append_left _ h)))
theorem m_t3 {w : Cond} (h : w ∈ tables_1_3) (g : goodWord w = true) : w ∈ m_tbl := List.mem_filter.mpr ⟨m_u3 h, g⟩
theorem m_u4 {w : Cond} (h : w ∈ tables_1_4) : w ∈ lw_tbl := List.mem_append_right _ (List.mem_append_right _ (List.mem_append_right _ (List.mem_append_right _ (List.mem_append_left _ h))))
theorem m_t4 {w : Cond} (h : w ∈ tables_1_4) (g : goodWord w = true) : w ∈ m_tbl := List.mem_filter.mpr ⟨m_u4 h, g⟩
theorem m_u5 {w : Cond} (h : w ∈ tables_1_5) : w ∈ lw_tbl := List.mem_append_right _ (List.mem_append_right _ (List.mem_append_right _ (List.mem_append_right _ (List.mem_append_right _ (h)))))
theorem m_t5 {w : Cond} (h : w ∈ tables_1_5) (g : goodWord w = true) : w ∈ m_tbl := List.mem_filter.mpr ⟨m_u5 h, g⟩
theorem wn_L : Cond.initialized RL ∈ m_tbl := m_t1 (List.mem_of_getElem? (i := 0) rfl) rfl
theorem wn_X7 : Cond.initialized RX7 ∈ m_tbl := m_t1 (List.mem_of_getElem? (i := 1) rfl) rfl
theorem wn_X3 : Cond.initialized RX3 ∈ m_tbl := m_t1 (List.mem_of_getElem? (i := 2) rfl) rfl
theorem wn_X0 : Cond.initialized RX0 ∈ m_tbl := m_t1 (List.mem_of_getElem? (i := 3) rfl) rfl
theorem wn_X1 : Cond.initialized RX1 ∈ m_tbl := m_t1 (List.mem_of_getElem? (i := 4) rfl) rfl
theorem wn_X4 : Cond.initialized RX4 ∈ m_tbl := m_t1 (List.mem_of_getElem? (i := 5) rfl) rfl
theorem wn_X6 : Cond.initialized RX6 ∈ m_tbl := m_t1 (List.mem_of_getElem? (i := 6) rfl) rfl
theorem wn_java_lang_System : Cond.initialized "java/lang/System" ∈ m_tbl := m_t1 (List.mem_of_getElem? (i := 7) rfl) rfl
theorem wn_X2 : Cond.initialized RX2 ∈ m_tbl := m_t1 (List.mem_of_getElem? (i := 8) rfl) rfl
theorem wn_X5 : Cond.initialized RX5 ∈ m_tbl := m_t1 (List.mem_of_getElem? (i := 9) rfl) rfl
theorem wn_X8 : Cond.initialized RX8 ∈ m_tbl := m_t1 (List.mem_of_getElem? (i := 10) rfl) rfl
theorem wn_java_lang_Math : Cond.initialized "java/lang/Math" ∈ m_tbl := m_t1 (List.mem_of_getElem? (i := 11) rfl) rfl
theorem wk_L_7 : Cond.classLink RL 7 RX7 ∈ m_tbl := m_t1 (List.mem_of_getElem? (i := 12) rfl) rfl
theorem wb_X7 : Cond.instantiable RX7 5 ∈ m_tbl := m_t1 (List.mem_of_getElem? (i := 13) rfl) rfl
theorem wl_L_9 : Cond.methodLink RL 9 yX7_init ∈ m_tbl := m_t1 (List.mem_of_getElem? (i := 14) rfl) rfl
theorem wi_X7_init : Cond.instanceMethod yX7_init ∈ m_tbl := m_t1 (List.mem_of_getElem? (i := 15) rfl) rfl
theorem wc_X7_init : Cond.code yX7_init cX7_init 1 none ∈ m_tbl := m_t1 (List.mem_of_getElem? (i := 16) rfl) rfl
theorem wl_X7_1 : Cond.methodLink RX7 1 objectInit ∈ m_tbl := m_t1 (List.mem_of_getElem? (i := 17) rfl) rfl
theorem wi_objectInit : Cond.instanceMethod objectInit ∈ m_tbl := m_t1 (List.mem_of_getElem? (i := 18) rfl) rfl
theorem wc_objectInit : Cond.code objectInit ⟨#[0xb1]⟩ 1 none ∈ m_tbl := m_t1 (List.mem_of_getElem? (i := 19) rfl) rfl
theorem wk_X7_7 : Cond.classLink RX7 7 RX3 ∈ m_tbl := m_t1 (List.mem_of_getElem? (i := 20) rfl) rfl
theorem wb_X3 : Cond.instantiable RX3 12 ∈ m_tbl := m_t1 (List.mem_of_getElem? (i := 21) rfl) rfl
theorem wl_X7_9 : Cond.methodLink RX7 9 yX3_init ∈ m_tbl := m_t1 (List.mem_of_getElem? (i := 22) rfl) rfl
theorem wi_X3_init : Cond.instanceMethod yX3_init ∈ m_tbl := m_t1 (List.mem_of_getElem? (i := 23) rfl) rfl
theorem wc_X3_init : Cond.code yX3_init cX3_init 2 none ∈ m_tbl := m_t1 (List.mem_of_getElem? (i := 24) rfl) rfl
theorem wl_X3_3 : Cond.methodLink RX3 3 objectInit ∈ m_tbl := m_t1 (List.mem_of_getElem? (i := 25) rfl) rfl
theorem wk_X3_9 : Cond.classLink RX3 9 RX0 ∈ m_tbl := m_t1 (List.mem_of_getElem? (i := 26) rfl) rfl
theorem wb_X0 : Cond.instantiable RX0 9 ∈ m_tbl := m_t1 (List.mem_of_getElem? (i := 27) rfl) rfl
theorem wln_X3_11 : Cond.methodLinkNest RX3 11 yX0_init "GroupCommits" ∈ lw_tbl := m_u1 (List.mem_of_getElem? (i := 28) rfl)
theorem wi_X0_init : Cond.instanceMethod yX0_init ∈ m_tbl := m_t1 (List.mem_of_getElem? (i := 29) rfl) rfl
theorem wc_X0_init : Cond.code yX0_init cX0_init 1 none ∈ m_tbl := m_t1 (List.mem_of_getElem? (i := 30) rfl) rfl
theorem wl_X0_3 : Cond.methodLink RX0 3 objectInit ∈ m_tbl := m_t1 (List.mem_of_getElem? (i := 31) rfl) rfl
theorem wf_X0_11 : Cond.fieldLink RX0 11 "GroupCommits$Commits" "clients" "[I" ∈ m_tbl := m_t1 (List.mem_of_getElem? (i := 32) rfl) rfl
theorem wf_X0_15 : Cond.fieldLink RX0 15 "GroupCommits$Commits" "records" "[I" ∈ m_tbl := m_t1 (List.mem_of_getElem? (i := 33) rfl) rfl
theorem wf_X0_18 : Cond.fieldLink RX0 18 "GroupCommits$Commits" "urgent" "[Z" ∈ m_tbl := m_t1 (List.mem_of_getElem? (i := 34) rfl) rfl
theorem wf_X0_22 : Cond.fieldLink RX0 22 "GroupCommits$Commits" "states" "[I" ∈ m_tbl := m_t1 (List.mem_of_getElem? (i := 35) rfl) rfl
theorem wf_X0_25 : Cond.fieldLink RX0 25 "GroupCommits$Commits" "submitTimes" "[I" ∈ m_tbl := m_t1 (List.mem_of_getElem? (i := 36) rfl) rfl
theorem wf_X0_28 : Cond.fieldLink RX0 28 "GroupCommits$Commits" "answerTimes" "[I" ∈ m_tbl := m_t1 (List.mem_of_getElem? (i := 37) rfl) rfl
theorem wf_X0_31 : Cond.fieldLink RX0 31 "GroupCommits$Commits" "groups" "[I" ∈ m_tbl := m_t1 (List.mem_of_getElem? (i := 38) rfl) rfl
theorem wf_X0_34 : Cond.fieldLink RX0 34 "GroupCommits$Commits" "inGroup" "[Z" ∈ m_tbl := m_t1 (List.mem_of_getElem? (i := 39) rfl) rfl
theorem wf_X0_43 : Cond.fieldLink RX0 43 "GroupCommits$Commits" "size" "I" ∈ m_tbl := m_t1 (List.mem_of_getElem? (i := 40) rfl) rfl
theorem wa_int : Cond.arrayClass .int ∈ m_tbl := m_t1 (List.mem_of_getElem? (i := 60) rfl) rfl
theorem wa_boolean : Cond.arrayClass .boolean ∈ m_tbl := m_t1 (List.mem_of_getElem? (i := 61) rfl) rfl
theorem wk_X3_18 : Cond.classLink RX3 18 RX1 ∈ m_tbl := m_t1 (List.mem_of_getElem? (i := 62) rfl) rfl
theorem wb_X1 : Cond.instantiable RX1 5 ∈ m_tbl := m_t1 (List.mem_of_getElem? (i := 63) rfl) rfl
theorem wln_X3_20 : Cond.methodLinkNest RX3 20 yX1_init "GroupCommits" ∈ lw_tbl := m_u1 (List.mem_of_getElem? (i := 64) rfl)
theorem wi_X1_init : Cond.instanceMethod yX1_init ∈ m_tbl := m_t1 (List.mem_of_getElem? (i := 65) rfl) rfl
theorem wc_X1_init : Cond.code yX1_init cX1_init 1 none ∈ m_tbl := m_t1 (List.mem_of_getElem? (i := 66) rfl) rfl
theorem wl_X1_5 : Cond.methodLink RX1 5 objectInit ∈ m_tbl := m_t1 (List.mem_of_getElem? (i := 67) rfl) rfl
theorem wf_X1_13 : Cond.fieldLink RX1 13 "GroupCommits$Groups" "states" "[I" ∈ m_tbl := m_t1 (List.mem_of_getElem? (i := 68) rfl) rfl
theorem wf_X1_17 : Cond.fieldLink RX1 17 "GroupCommits$Groups" "members" "[I" ∈ m_tbl := m_t1 (List.mem_of_getElem? (i := 69) rfl) rfl
theorem wf_X1_20 : Cond.fieldLink RX1 20 "GroupCommits$Groups" "records" "[I" ∈ m_tbl := m_t1 (List.mem_of_getElem? (i := 70) rfl) rfl
theorem wf_X1_23 : Cond.fieldLink RX1 23 "GroupCommits$Groups" "reasons" "[I" ∈ m_tbl := m_t1 (List.mem_of_getElem? (i := 71) rfl) rfl
theorem wf_X1_32 : Cond.fieldLink RX1 32 "GroupCommits$Groups" "size" "I" ∈ m_tbl := m_t1 (List.mem_of_getElem? (i := 72) rfl) rfl
theorem wk_X3_25 : Cond.classLink RX3 25 RX4 ∈ m_tbl := m_t1 (List.mem_of_getElem? (i := 84) rfl) rfl
theorem wb_X4 : Cond.instantiable RX4 3 ∈ m_tbl := m_t1 (List.mem_of_getElem? (i := 85) rfl) rfl
theorem wln_X3_27 : Cond.methodLinkNest RX3 27 yX4_init "GroupCommits" ∈ lw_tbl := m_u1 (List.mem_of_getElem? (i := 86) rfl)
theorem wi_X4_init : Cond.instanceMethod yX4_init ∈ m_tbl := m_t1 (List.mem_of_getElem? (i := 87) rfl) rfl
theorem wc_X4_init : Cond.code yX4_init cX4_init 1 none ∈ m_tbl := m_t1 (List.mem_of_getElem? (i := 88) rfl) rfl
theorem wl_X4_5 : Cond.methodLink RX4 5 objectInit ∈ m_tbl := m_t1 (List.mem_of_getElem? (i := 89) rfl) rfl
theorem wf_X4_13 : Cond.fieldLink RX4 13 "GroupCommits$Queue" "row" "[I" ∈ m_tbl := m_t1 (List.mem_of_getElem? (i := 90) rfl) rfl
theorem wf_X4_23 : Cond.fieldLink RX4 23 "GroupCommits$Queue" "first" "I" ∈ m_tbl := m_t1 (List.mem_of_getElem? (i := 91) rfl) rfl
theorem wf_X4_27 : Cond.fieldLink RX4 27 "GroupCommits$Queue" "end" "I" ∈ m_tbl := m_t1 (List.mem_of_getElem? (i := 92) rfl) rfl
theorem wk_X3_32 : Cond.classLink RX3 32 RX6 ∈ m_tbl := m_t1 (List.mem_of_getElem? (i := 100) rfl) rfl
theorem wb_X6 : Cond.instantiable RX6 1 ∈ m_tbl := m_t1 (List.mem_of_getElem? (i := 101) rfl) rfl
theorem wl_X3_34 : Cond.methodLink RX3 34 yX6_init ∈ m_tbl := m_t1 (List.mem_of_getElem? (i := 102) rfl) rfl
theorem wi_X6_init : Cond.instanceMethod yX6_init ∈ m_tbl := m_t1 (List.mem_of_getElem? (i := 103) rfl) rfl
theorem wc_X6_init : Cond.code yX6_init cX6_init 1 none ∈ m_tbl := m_t1 (List.mem_of_getElem? (i := 104) rfl) rfl
theorem wl_X6_3 : Cond.methodLink RX6 3 objectInit ∈ m_tbl := m_t1 (List.mem_of_getElem? (i := 105) rfl) rfl
theorem wf_X6_15 : Cond.fieldLink RX6 15 "GroupCommits$Settings" "FIRST" "[I" ∈ m_tbl := m_t1 (List.mem_of_getElem? (i := 106) rfl) rfl
theorem wz_FIRST : Cond.laysStatic "GroupCommits$Settings" "FIRST" "[I" ∈ lw_tbl := m_u1 (List.mem_of_getElem? (i := 107) rfl)
theorem wl_X6_18 : Cond.methodLink RX6 18 arraycopyName ∈ m_tbl := m_t1 (List.mem_of_getElem? (i := 108) rfl) rfl
theorem wst_arraycopyName : Cond.static arraycopyName ∈ m_tbl := m_t1 (List.mem_of_getElem? (i := 109) rfl) rfl
theorem wnat_arraycopyName : Cond.native arraycopyName ∈ m_tbl := m_t1 (List.mem_of_getElem? (i := 110) rfl) rfl
theorem wf_X6_11 : Cond.fieldLink RX6 11 "GroupCommits$Settings" "values" "[I" ∈ m_tbl := m_t1 (List.mem_of_getElem? (i := 111) rfl) rfl
theorem wf_X3_12 : Cond.fieldLink RX3 12 "GroupCommits$Log" "commits" "LGroupCommits$Commits;" ∈ m_tbl := m_t1 (List.mem_of_getElem? (i := 115) rfl) rfl
theorem wf_X3_21 : Cond.fieldLink RX3 21 "GroupCommits$Log" "groups" "LGroupCommits$Groups;" ∈ m_tbl := m_t1 (List.mem_of_getElem? (i := 116) rfl) rfl
theorem wf_X3_28 : Cond.fieldLink RX3 28 "GroupCommits$Log" "queue" "LGroupCommits$Queue;" ∈ m_tbl := m_t1 (List.mem_of_getElem? (i := 117) rfl) rfl
theorem wf_X3_35 : Cond.fieldLink RX3 35 "GroupCommits$Log" "settings" "LGroupCommits$Settings;" ∈ m_tbl := m_t1 (List.mem_of_getElem? (i := 118) rfl) rfl
theorem wf_X3_39 : Cond.fieldLink RX3 39 "GroupCommits$Log" "totals" "[I" ∈ m_tbl := m_t1 (List.mem_of_getElem? (i := 119) rfl) rfl
theorem wf_X3_43 : Cond.fieldLink RX3 43 "GroupCommits$Log" "openCommits" "[I" ∈ m_tbl := m_t1 (List.mem_of_getElem? (i := 120) rfl) rfl
theorem wf_X3_75 : Cond.fieldLink RX3 75 "GroupCommits$Log" "time" "I" ∈ m_tbl := m_t1 (List.mem_of_getElem? (i := 121) rfl) rfl
theorem wf_X3_46 : Cond.fieldLink RX3 46 "GroupCommits$Log" "wait" "I" ∈ m_tbl := m_t1 (List.mem_of_getElem? (i := 122) rfl) rfl
theorem wf_X3_50 : Cond.fieldLink RX3 50 "GroupCommits$Log" "gathering" "I" ∈ m_tbl := m_t1 (List.mem_of_getElem? (i := 123) rfl) rfl
theorem wf_X3_78 : Cond.fieldLink RX3 78 "GroupCommits$Log" "gatheringEnd" "I" ∈ m_tbl := m_t1 (List.mem_of_getElem? (i := 124) rfl) rfl
theorem wf_X3_53 : Cond.fieldLink RX3 53 "GroupCommits$Log" "writing" "I" ∈ m_tbl := m_t1 (List.mem_of_getElem? (i := 125) rfl) rfl
theorem wf_X3_81 : Cond.fieldLink RX3 81 "GroupCommits$Log" "ticksLeft" "I" ∈ m_tbl := m_t1 (List.mem_of_getElem? (i := 126) rfl) rfl
theorem wk_X7_19 : Cond.classLink RX7 19 RX2 ∈ m_tbl := m_t1 (List.mem_of_getElem? (i := 152) rfl) rfl
theorem wb_X2 : Cond.instantiable RX2 3 ∈ m_tbl := m_t1 (List.mem_of_getElem? (i := 153) rfl) rfl
theorem wl_X7_21 : Cond.methodLink RX7 21 yX2_init ∈ m_tbl := m_t1 (List.mem_of_getElem? (i := 154) rfl) rfl
theorem wi_X2_init : Cond.instanceMethod yX2_init ∈ m_tbl := m_t1 (List.mem_of_getElem? (i := 155) rfl) rfl
theorem wc_X2_init : Cond.code yX2_init cX2_init 2 none ∈ m_tbl := m_t1 (List.mem_of_getElem? (i := 156) rfl) rfl
theorem wl_X2_3 : Cond.methodLink RX2 3 objectInit ∈ m_tbl := m_t1 (List.mem_of_getElem? (i := 157) rfl) rfl
theorem wk_X2_11 : Cond.classLink RX2 11 RX3 ∈ m_tbl := m_t1 (List.mem_of_getElem? (i := 158) rfl) rfl
theorem wo_arrayOver : Cond.arrayOver (.object "GroupCommits$Log") ∈ lw_tbl := m_u1 (List.mem_of_getElem? (i := 159) rfl)
theorem wl_X2_17 : Cond.methodLink RX2 17 yX3_init ∈ m_tbl := m_t1 (List.mem_of_getElem? (i := 160) rfl) rfl
theorem wf_X2_13 : Cond.fieldLink RX2 13 "GroupCommits$History" "states" "[LGroupCommits$Log;" ∈ m_tbl := m_t1 (List.mem_of_getElem? (i := 161) rfl) rfl
theorem wf_X2_22 : Cond.fieldLink RX2 22 "GroupCommits$History" "oldest" "I" ∈ m_tbl := m_t1 (List.mem_of_getElem? (i := 162) rfl) rfl
theorem wf_X2_18 : Cond.fieldLink RX2 18 "GroupCommits$History" "size" "I" ∈ m_tbl := m_t1 (List.mem_of_getElem? (i := 163) rfl) rfl
theorem wk_X7_26 : Cond.classLink RX7 26 RX5 ∈ m_tbl := m_t1 (List.mem_of_getElem? (i := 171) rfl) rfl
theorem wb_X5 : Cond.instantiable RX5 7 ∈ m_tbl := m_t1 (List.mem_of_getElem? (i := 172) rfl) rfl
theorem wln_X7_28 : Cond.methodLinkNest RX7 28 yX5_init "GroupCommits" ∈ lw_tbl := m_u1 (List.mem_of_getElem? (i := 173) rfl)
theorem wi_X5_init : Cond.instanceMethod yX5_init ∈ m_tbl := m_t1 (List.mem_of_getElem? (i := 174) rfl) rfl
theorem wc_X5_init : Cond.code yX5_init cX5_init 1 none ∈ m_tbl := m_t1 (List.mem_of_getElem? (i := 175) rfl) rfl
theorem wl_X5_3 : Cond.methodLink RX5 3 objectInit ∈ m_tbl := m_t1 (List.mem_of_getElem? (i := 176) rfl) rfl
theorem wf_X5_11 : Cond.fieldLink RX5 11 "GroupCommits$Script" "characters" "[C" ∈ m_tbl := m_t1 (List.mem_of_getElem? (i := 177) rfl) rfl
theorem wf_X5_15 : Cond.fieldLink RX5 15 "GroupCommits$Script" "length" "I" ∈ m_tbl := m_t1 (List.mem_of_getElem? (i := 178) rfl) rfl
theorem wf_X5_39 : Cond.fieldLink RX5 39 "GroupCommits$Script" "cursor" "I" ∈ m_tbl := m_t1 (List.mem_of_getElem? (i := 179) rfl) rfl
theorem wf_X5_45 : Cond.fieldLink RX5 45 "GroupCommits$Script" "kind" "I" ∈ m_tbl := m_t1 (List.mem_of_getElem? (i := 180) rfl) rfl
theorem wf_X5_52 : Cond.fieldLink RX5 52 "GroupCommits$Script" "number" "I" ∈ m_tbl := m_t1 (List.mem_of_getElem? (i := 181) rfl) rfl
theorem wf_X5_58 : Cond.fieldLink RX5 58 "GroupCommits$Script" "records" "I" ∈ m_tbl := m_t1 (List.mem_of_getElem? (i := 182) rfl) rfl
theorem wf_X5_61 : Cond.fieldLink RX5 61 "GroupCommits$Script" "isUrgent" "Z" ∈ m_tbl := m_t1 (List.mem_of_getElem? (i := 183) rfl) rfl
theorem wa_char : Cond.arrayClass .char ∈ m_tbl := m_t1 (List.mem_of_getElem? (i := 199) rfl) rfl
theorem wf_X7_10 : Cond.fieldLink RX7 10 "GroupCommits" "now" "LGroupCommits$Log;" ∈ m_tbl := m_t1 (List.mem_of_getElem? (i := 200) rfl) rfl
theorem wf_X7_16 : Cond.fieldLink RX7 16 "GroupCommits" "snapshot" "LGroupCommits$Log;" ∈ m_tbl := m_t1 (List.mem_of_getElem? (i := 201) rfl) rfl
theorem wf_X7_22 : Cond.fieldLink RX7 22 "GroupCommits" "history" "LGroupCommits$History;" ∈ m_tbl := m_t1 (List.mem_of_getElem? (i := 202) rfl) rfl
theorem wf_X7_29 : Cond.fieldLink RX7 29 "GroupCommits" "script" "LGroupCommits$Script;" ∈ m_tbl := m_t1 (List.mem_of_getElem? (i := 203) rfl) rfl
theorem wf_X7_115 : Cond.fieldLink RX7 115 "GroupCommits" "hasSnapshot" "Z" ∈ m_tbl := m_t1 (List.mem_of_getElem? (i := 204) rfl) rfl
theorem wl_L_13 : Cond.methodLink RL 13 yX7_submit ∈ m_tbl := m_t1 (List.mem_of_getElem? (i := 216) rfl) rfl
theorem wi_X7_submit : Cond.instanceMethod yX7_submit ∈ m_tbl := m_t1 (List.mem_of_getElem? (i := 217) rfl) rfl
theorem ws_X7_submit : Cond.selects RX7 yX7_submit yX7_submit ∈ m_tbl := m_t1 (List.mem_of_getElem? (i := 218) rfl) rfl
theorem wc_X7_submit : Cond.code yX7_submit cX7_submit 5 (some .int) ∈ m_tbl := m_t1 (List.mem_of_getElem? (i := 219) rfl) rfl
theorem wl_X7_33 : Cond.methodLink RX7 33 yX3_refusalToEnter ∈ m_tbl := m_t1 (List.mem_of_getElem? (i := 220) rfl) rfl
theorem wi_X3_refusalToEnter : Cond.instanceMethod yX3_refusalToEnter ∈ m_tbl := m_t1 (List.mem_of_getElem? (i := 221) rfl) rfl
theorem ws_X3_refusalToEnter : Cond.selects RX3 yX3_refusalToEnter yX3_refusalToEnter ∈ m_tbl := m_t1 (List.mem_of_getElem? (i := 222) rfl) rfl
theorem wc_X3_refusalToEnter : Cond.code yX3_refusalToEnter cX3_refusalToEnter 3 (some .int) ∈ m_tbl := m_t1 (List.mem_of_getElem? (i := 223) rfl) rfl
theorem wl_X3_84 : Cond.methodLink RX3 84 yX3_isClient ∈ m_tbl := m_t1 (List.mem_of_getElem? (i := 224) rfl) rfl
theorem wst_X3_isClient : Cond.static yX3_isClient ∈ m_tbl := m_t1 (List.mem_of_getElem? (i := 225) rfl) rfl
theorem wc_X3_isClient : Cond.code yX3_isClient cX3_isClient 1 (some .boolean) ∈ m_tbl := m_t1 (List.mem_of_getElem? (i := 226) rfl) rfl
theorem wl_X3_88 : Cond.methodLink RX3 88 yX3_isRecords ∈ m_tbl := m_t1 (List.mem_of_getElem? (i := 227) rfl) rfl
theorem wst_X3_isRecords : Cond.static yX3_isRecords ∈ m_tbl := m_t1 (List.mem_of_getElem? (i := 228) rfl) rfl
theorem wc_X3_isRecords : Cond.code yX3_isRecords cX3_isRecords 1 (some .boolean) ∈ m_tbl := m_t1 (List.mem_of_getElem? (i := 229) rfl) rfl
theorem wl_X3_91 : Cond.methodLink RX3 91 yX3_openCommitOf ∈ m_tbl := m_t1 (List.mem_of_getElem? (i := 230) rfl) rfl
theorem wi_X3_openCommitOf : Cond.instanceMethod yX3_openCommitOf ∈ m_tbl := m_t1 (List.mem_of_getElem? (i := 231) rfl) rfl
theorem ws_X3_openCommitOf : Cond.selects RX3 yX3_openCommitOf yX3_openCommitOf ∈ m_tbl := m_t1 (List.mem_of_getElem? (i := 232) rfl) rfl
theorem wc_X3_openCommitOf : Cond.code yX3_openCommitOf cX3_openCommitOf 2 (some .int) ∈ m_tbl := m_t1 (List.mem_of_getElem? (i := 233) rfl) rfl
theorem wl_X3_95 : Cond.methodLink RX3 95 yX0_isFull ∈ m_tbl := m_t1 (List.mem_of_getElem? (i := 234) rfl) rfl
theorem wi_X0_isFull : Cond.instanceMethod yX0_isFull ∈ m_tbl := m_t1 (List.mem_of_getElem? (i := 235) rfl) rfl
theorem ws_X0_isFull : Cond.selects RX0 yX0_isFull yX0_isFull ∈ m_tbl := m_t1 (List.mem_of_getElem? (i := 236) rfl) rfl
theorem wc_X0_isFull : Cond.code yX0_isFull cX0_isFull 1 (some .boolean) ∈ m_tbl := m_t1 (List.mem_of_getElem? (i := 237) rfl) rfl
theorem wl_X7_37 : Cond.methodLink RX7 37 yX2_push ∈ m_tbl := m_t1 (List.mem_of_getElem? (i := 238) rfl) rfl
theorem wi_X2_push : Cond.instanceMethod yX2_push ∈ m_tbl := m_t1 (List.mem_of_getElem? (i := 239) rfl) rfl
theorem ws_X2_push : Cond.selects RX2 yX2_push yX2_push ∈ m_tbl := m_t2 (List.mem_of_getElem? (i := 0) rfl) rfl
theorem wc_X2_push : Cond.code yX2_push cX2_push 2 none ∈ m_tbl := m_t2 (List.mem_of_getElem? (i := 1) rfl) rfl
theorem wl_X2_25 : Cond.methodLink RX2 25 yX3_copyFrom ∈ m_tbl := m_t2 (List.mem_of_getElem? (i := 2) rfl) rfl
theorem wi_X3_copyFrom : Cond.instanceMethod yX3_copyFrom ∈ m_tbl := m_t2 (List.mem_of_getElem? (i := 3) rfl) rfl
theorem ws_X3_copyFrom : Cond.selects RX3 yX3_copyFrom yX3_copyFrom ∈ m_tbl := m_t2 (List.mem_of_getElem? (i := 4) rfl) rfl
theorem wc_X3_copyFrom : Cond.code yX3_copyFrom cX3_copyFrom 2 none ∈ m_tbl := m_t2 (List.mem_of_getElem? (i := 5) rfl) rfl
theorem wl_X3_56 : Cond.methodLink RX3 56 yX0_copyFrom ∈ m_tbl := m_t2 (List.mem_of_getElem? (i := 6) rfl) rfl
theorem wi_X0_copyFrom : Cond.instanceMethod yX0_copyFrom ∈ m_tbl := m_t2 (List.mem_of_getElem? (i := 7) rfl) rfl
theorem ws_X0_copyFrom : Cond.selects RX0 yX0_copyFrom yX0_copyFrom ∈ m_tbl := m_t2 (List.mem_of_getElem? (i := 8) rfl) rfl
theorem wc_X0_copyFrom : Cond.code yX0_copyFrom cX0_copyFrom 2 none ∈ m_tbl := m_t2 (List.mem_of_getElem? (i := 9) rfl) rfl
theorem wl_X0_37 : Cond.methodLink RX0 37 arraycopyName ∈ m_tbl := m_t2 (List.mem_of_getElem? (i := 10) rfl) rfl
theorem wl_X3_60 : Cond.methodLink RX3 60 yX1_copyFrom ∈ m_tbl := m_t2 (List.mem_of_getElem? (i := 11) rfl) rfl
theorem wi_X1_copyFrom : Cond.instanceMethod yX1_copyFrom ∈ m_tbl := m_t2 (List.mem_of_getElem? (i := 12) rfl) rfl
theorem ws_X1_copyFrom : Cond.selects RX1 yX1_copyFrom yX1_copyFrom ∈ m_tbl := m_t2 (List.mem_of_getElem? (i := 13) rfl) rfl
theorem wc_X1_copyFrom : Cond.code yX1_copyFrom cX1_copyFrom 2 none ∈ m_tbl := m_t2 (List.mem_of_getElem? (i := 14) rfl) rfl
theorem wl_X1_26 : Cond.methodLink RX1 26 arraycopyName ∈ m_tbl := m_t2 (List.mem_of_getElem? (i := 15) rfl) rfl
theorem wl_X3_63 : Cond.methodLink RX3 63 yX4_copyFrom ∈ m_tbl := m_t2 (List.mem_of_getElem? (i := 16) rfl) rfl
theorem wi_X4_copyFrom : Cond.instanceMethod yX4_copyFrom ∈ m_tbl := m_t2 (List.mem_of_getElem? (i := 17) rfl) rfl
theorem ws_X4_copyFrom : Cond.selects RX4 yX4_copyFrom yX4_copyFrom ∈ m_tbl := m_t2 (List.mem_of_getElem? (i := 18) rfl) rfl
theorem wc_X4_copyFrom : Cond.code yX4_copyFrom cX4_copyFrom 2 none ∈ m_tbl := m_t2 (List.mem_of_getElem? (i := 19) rfl) rfl
theorem wl_X4_17 : Cond.methodLink RX4 17 arraycopyName ∈ m_tbl := m_t2 (List.mem_of_getElem? (i := 20) rfl) rfl
theorem wl_X3_66 : Cond.methodLink RX3 66 yX6_copyFrom ∈ m_tbl := m_t2 (List.mem_of_getElem? (i := 21) rfl) rfl
theorem wi_X6_copyFrom : Cond.instanceMethod yX6_copyFrom ∈ m_tbl := m_t2 (List.mem_of_getElem? (i := 22) rfl) rfl
theorem ws_X6_copyFrom : Cond.selects RX6 yX6_copyFrom yX6_copyFrom ∈ m_tbl := m_t2 (List.mem_of_getElem? (i := 23) rfl) rfl
theorem wc_X6_copyFrom : Cond.code yX6_copyFrom cX6_copyFrom 2 none ∈ m_tbl := m_t2 (List.mem_of_getElem? (i := 24) rfl) rfl
theorem wl_X3_69 : Cond.methodLink RX3 69 arraycopyName ∈ m_tbl := m_t2 (List.mem_of_getElem? (i := 25) rfl) rfl
theorem wl_X7_41 : Cond.methodLink RX7 41 yX3_enter ∈ m_tbl := m_t2 (List.mem_of_getElem? (i := 26) rfl) rfl
theorem wi_X3_enter : Cond.instanceMethod yX3_enter ∈ m_tbl := m_t2 (List.mem_of_getElem? (i := 27) rfl) rfl
theorem ws_X3_enter : Cond.selects RX3 yX3_enter yX3_enter ∈ m_tbl := m_t2 (List.mem_of_getElem? (i := 28) rfl) rfl
theorem wc_X3_enter : Cond.code yX3_enter cX3_enter 6 (some .int) ∈ m_tbl := m_t2 (List.mem_of_getElem? (i := 29) rfl) rfl
theorem wl_X3_103 : Cond.methodLink RX3 103 yX3_beginGroup ∈ m_tbl := m_t2 (List.mem_of_getElem? (i := 30) rfl) rfl
theorem wi_X3_beginGroup : Cond.instanceMethod yX3_beginGroup ∈ m_tbl := m_t2 (List.mem_of_getElem? (i := 32) rfl) rfl
theorem wc_X3_beginGroup : Cond.code yX3_beginGroup cX3_beginGroup 1 none ∈ m_tbl := m_t2 (List.mem_of_getElem? (i := 33) rfl) rfl
theorem wl_X3_152 : Cond.methodLink RX3 152 yX1_begin ∈ m_tbl := m_t2 (List.mem_of_getElem? (i := 34) rfl) rfl
theorem wi_X1_begin : Cond.instanceMethod yX1_begin ∈ m_tbl := m_t2 (List.mem_of_getElem? (i := 35) rfl) rfl
theorem ws_X1_begin : Cond.selects RX1 yX1_begin yX1_begin ∈ m_tbl := m_t2 (List.mem_of_getElem? (i := 36) rfl) rfl
theorem wc_X1_begin : Cond.code yX1_begin cX1_begin 2 (some .int) ∈ m_tbl := m_t2 (List.mem_of_getElem? (i := 37) rfl) rfl
theorem wl_X3_106 : Cond.methodLink RX3 106 yX0_add ∈ m_tbl := m_t2 (List.mem_of_getElem? (i := 38) rfl) rfl
theorem wi_X0_add : Cond.instanceMethod yX0_add ∈ m_tbl := m_t2 (List.mem_of_getElem? (i := 39) rfl) rfl
theorem ws_X0_add : Cond.selects RX0 yX0_add yX0_add ∈ m_tbl := m_t2 (List.mem_of_getElem? (i := 40) rfl) rfl
theorem wc_X0_add : Cond.code yX0_add cX0_add 7 (some .int) ∈ m_tbl := m_t2 (List.mem_of_getElem? (i := 41) rfl) rfl
theorem wl_X0_47 : Cond.methodLink RX0 47 yX0_isFull ∈ m_tbl := m_t2 (List.mem_of_getElem? (i := 42) rfl) rfl
theorem wl_X3_110 : Cond.methodLink RX3 110 yX1_join ∈ m_tbl := m_t2 (List.mem_of_getElem? (i := 43) rfl) rfl
theorem wi_X1_join : Cond.instanceMethod yX1_join ∈ m_tbl := m_t2 (List.mem_of_getElem? (i := 44) rfl) rfl
theorem ws_X1_join : Cond.selects RX1 yX1_join yX1_join ∈ m_tbl := m_t2 (List.mem_of_getElem? (i := 45) rfl) rfl
theorem wc_X1_join : Cond.code yX1_join cX1_join 3 none ∈ m_tbl := m_t2 (List.mem_of_getElem? (i := 46) rfl) rfl
theorem wl_X1_36 : Cond.methodLink RX1 36 yX1_has ∈ m_tbl := m_t2 (List.mem_of_getElem? (i := 47) rfl) rfl
theorem wi_X1_has : Cond.instanceMethod yX1_has ∈ m_tbl := m_t2 (List.mem_of_getElem? (i := 48) rfl) rfl
theorem ws_X1_has : Cond.selects RX1 yX1_has yX1_has ∈ m_tbl := m_t2 (List.mem_of_getElem? (i := 49) rfl) rfl
theorem wc_X1_has : Cond.code yX1_has cX1_has 2 (some .boolean) ∈ m_tbl := m_t2 (List.mem_of_getElem? (i := 50) rfl) rfl
theorem wl_X3_114 : Cond.methodLink RX3 114 yX3_setOpenCommit ∈ m_tbl := m_t2 (List.mem_of_getElem? (i := 51) rfl) rfl
theorem wi_X3_setOpenCommit : Cond.instanceMethod yX3_setOpenCommit ∈ m_tbl := m_t2 (List.mem_of_getElem? (i := 53) rfl) rfl
theorem wc_X3_setOpenCommit : Cond.code yX3_setOpenCommit cX3_setOpenCommit 3 none ∈ m_tbl := m_t2 (List.mem_of_getElem? (i := 54) rfl) rfl
theorem wl_X3_117 : Cond.methodLink RX3 117 yX1_recordsOf ∈ m_tbl := m_t2 (List.mem_of_getElem? (i := 55) rfl) rfl
theorem wi_X1_recordsOf : Cond.instanceMethod yX1_recordsOf ∈ m_tbl := m_t2 (List.mem_of_getElem? (i := 56) rfl) rfl
theorem ws_X1_recordsOf : Cond.selects RX1 yX1_recordsOf yX1_recordsOf ∈ m_tbl := m_t2 (List.mem_of_getElem? (i := 57) rfl) rfl
theorem wc_X1_recordsOf : Cond.code yX1_recordsOf cX1_recordsOf 2 (some .int) ∈ m_tbl := m_t2 (List.mem_of_getElem? (i := 58) rfl) rfl
theorem wl_X3_120 : Cond.methodLink RX3 120 yX3_reasonToClose ∈ m_tbl := m_t2 (List.mem_of_getElem? (i := 59) rfl) rfl
theorem wi_X3_reasonToClose : Cond.instanceMethod yX3_reasonToClose ∈ m_tbl := m_t2 (List.mem_of_getElem? (i := 61) rfl) rfl
theorem wc_X3_reasonToClose : Cond.code yX3_reasonToClose cX3_reasonToClose 4 (some .int) ∈ m_tbl := m_t2 (List.mem_of_getElem? (i := 62) rfl) rfl
theorem wl_X3_155 : Cond.methodLink RX3 155 yX6_valueOf ∈ m_tbl := m_t2 (List.mem_of_getElem? (i := 63) rfl) rfl
theorem wi_X6_valueOf : Cond.instanceMethod yX6_valueOf ∈ m_tbl := m_t2 (List.mem_of_getElem? (i := 64) rfl) rfl
theorem ws_X6_valueOf : Cond.selects RX6 yX6_valueOf yX6_valueOf ∈ m_tbl := m_t2 (List.mem_of_getElem? (i := 65) rfl) rfl
theorem wc_X6_valueOf : Cond.code yX6_valueOf cX6_valueOf 2 (some .int) ∈ m_tbl := m_t2 (List.mem_of_getElem? (i := 66) rfl) rfl
theorem wl_X3_124 : Cond.methodLink RX3 124 yX3_closeGathering ∈ m_tbl := m_t2 (List.mem_of_getElem? (i := 67) rfl) rfl
theorem wi_X3_closeGathering : Cond.instanceMethod yX3_closeGathering ∈ m_tbl := m_t2 (List.mem_of_getElem? (i := 69) rfl) rfl
theorem wc_X3_closeGathering : Cond.code yX3_closeGathering cX3_closeGathering 3 none ∈ m_tbl := m_t2 (List.mem_of_getElem? (i := 70) rfl) rfl
theorem wl_X3_158 : Cond.methodLink RX3 158 yX1_close ∈ m_tbl := m_t2 (List.mem_of_getElem? (i := 71) rfl) rfl
theorem wi_X1_close : Cond.instanceMethod yX1_close ∈ m_tbl := m_t2 (List.mem_of_getElem? (i := 72) rfl) rfl
theorem ws_X1_close : Cond.selects RX1 yX1_close yX1_close ∈ m_tbl := m_t2 (List.mem_of_getElem? (i := 73) rfl) rfl
theorem wc_X1_close : Cond.code yX1_close cX1_close 3 none ∈ m_tbl := m_t2 (List.mem_of_getElem? (i := 74) rfl) rfl
theorem wl_X3_161 : Cond.methodLink RX3 161 yX0_moveMembers ∈ m_tbl := m_t2 (List.mem_of_getElem? (i := 75) rfl) rfl
theorem wi_X0_moveMembers : Cond.instanceMethod yX0_moveMembers ∈ m_tbl := m_t2 (List.mem_of_getElem? (i := 76) rfl) rfl
theorem ws_X0_moveMembers : Cond.selects RX0 yX0_moveMembers yX0_moveMembers ∈ m_tbl := m_t2 (List.mem_of_getElem? (i := 77) rfl) rfl
theorem wc_X0_moveMembers : Cond.code yX0_moveMembers cX0_moveMembers 5 none ∈ m_tbl := m_t2 (List.mem_of_getElem? (i := 78) rfl) rfl
theorem wl_X3_165 : Cond.methodLink RX3 165 yX4_add ∈ m_tbl := m_t2 (List.mem_of_getElem? (i := 79) rfl) rfl
theorem wi_X4_add : Cond.instanceMethod yX4_add ∈ m_tbl := m_t2 (List.mem_of_getElem? (i := 80) rfl) rfl
theorem ws_X4_add : Cond.selects RX4 yX4_add yX4_add ∈ m_tbl := m_t2 (List.mem_of_getElem? (i := 81) rfl) rfl
theorem wc_X4_add : Cond.code yX4_add cX4_add 2 none ∈ m_tbl := m_t2 (List.mem_of_getElem? (i := 82) rfl) rfl
theorem wl_X3_143 : Cond.methodLink RX3 143 yX1_membersOf ∈ m_tbl := m_t2 (List.mem_of_getElem? (i := 83) rfl) rfl
theorem wi_X1_membersOf : Cond.instanceMethod yX1_membersOf ∈ m_tbl := m_t2 (List.mem_of_getElem? (i := 84) rfl) rfl
theorem ws_X1_membersOf : Cond.selects RX1 yX1_membersOf yX1_membersOf ∈ m_tbl := m_t2 (List.mem_of_getElem? (i := 85) rfl) rfl
theorem wc_X1_membersOf : Cond.code yX1_membersOf cX1_membersOf 2 (some .int) ∈ m_tbl := m_t2 (List.mem_of_getElem? (i := 86) rfl) rfl
theorem wl_X3_167 : Cond.methodLink RX3 167 yX3_learnWait ∈ m_tbl := m_t2 (List.mem_of_getElem? (i := 87) rfl) rfl
theorem wi_X3_learnWait : Cond.instanceMethod yX3_learnWait ∈ m_tbl := m_t2 (List.mem_of_getElem? (i := 89) rfl) rfl
theorem wc_X3_learnWait : Cond.code yX3_learnWait cX3_learnWait 2 none ∈ m_tbl := m_t2 (List.mem_of_getElem? (i := 90) rfl) rfl
theorem wl_X3_170 : Cond.methodLink RX3 170 Lib.Math.min.name ∈ m_tbl := m_t2 (List.mem_of_getElem? (i := 91) rfl) rfl
theorem wst_Lib_Math_min_name : Cond.static Lib.Math.min.name ∈ m_tbl := m_t2 (List.mem_of_getElem? (i := 92) rfl) rfl
theorem wc_Lib_Math_min_name : Cond.code Lib.Math.min.name Lib.Math.min.code 2 (some .int) ∈ m_tbl := m_t2 (List.mem_of_getElem? (i := 93) rfl) rfl
theorem wl_X3_176 : Cond.methodLink RX3 176 Lib.Math.max.name ∈ m_tbl := m_t2 (List.mem_of_getElem? (i := 94) rfl) rfl
theorem wst_Lib_Math_max_name : Cond.static Lib.Math.max.name ∈ m_tbl := m_t2 (List.mem_of_getElem? (i := 95) rfl) rfl
theorem wc_Lib_Math_max_name : Cond.code Lib.Math.max.name Lib.Math.max.code 2 (some .int) ∈ m_tbl := m_t2 (List.mem_of_getElem? (i := 96) rfl) rfl
theorem wl_X3_128 : Cond.methodLink RX3 128 yX3_startWriting ∈ m_tbl := m_t2 (List.mem_of_getElem? (i := 97) rfl) rfl
theorem wi_X3_startWriting : Cond.instanceMethod yX3_startWriting ∈ m_tbl := m_t2 (List.mem_of_getElem? (i := 99) rfl) rfl
theorem wc_X3_startWriting : Cond.code yX3_startWriting cX3_startWriting 1 none ∈ m_tbl := m_t2 (List.mem_of_getElem? (i := 100) rfl) rfl
theorem wl_X3_190 : Cond.methodLink RX3 190 yX4_size ∈ m_tbl := m_t2 (List.mem_of_getElem? (i := 101) rfl) rfl
theorem wi_X4_size : Cond.instanceMethod yX4_size ∈ m_tbl := m_t2 (List.mem_of_getElem? (i := 102) rfl) rfl
theorem ws_X4_size : Cond.selects RX4 yX4_size yX4_size ∈ m_tbl := m_t2 (List.mem_of_getElem? (i := 103) rfl) rfl
theorem wc_X4_size : Cond.code yX4_size cX4_size 1 (some .int) ∈ m_tbl := m_t2 (List.mem_of_getElem? (i := 104) rfl) rfl
theorem wl_X3_193 : Cond.methodLink RX3 193 yX4_takeFirst ∈ m_tbl := m_t2 (List.mem_of_getElem? (i := 105) rfl) rfl
theorem wi_X4_takeFirst : Cond.instanceMethod yX4_takeFirst ∈ m_tbl := m_t2 (List.mem_of_getElem? (i := 106) rfl) rfl
theorem ws_X4_takeFirst : Cond.selects RX4 yX4_takeFirst yX4_takeFirst ∈ m_tbl := m_t2 (List.mem_of_getElem? (i := 107) rfl) rfl
theorem wc_X4_takeFirst : Cond.code yX4_takeFirst cX4_takeFirst 2 (some .int) ∈ m_tbl := m_t2 (List.mem_of_getElem? (i := 108) rfl) rfl
theorem wl_X3_196 : Cond.methodLink RX3 196 yX3_ticksToWrite ∈ m_tbl := m_t2 (List.mem_of_getElem? (i := 109) rfl) rfl
theorem wi_X3_ticksToWrite : Cond.instanceMethod yX3_ticksToWrite ∈ m_tbl := m_t2 (List.mem_of_getElem? (i := 111) rfl) rfl
theorem wc_X3_ticksToWrite : Cond.code yX3_ticksToWrite cX3_ticksToWrite 2 (some .int) ∈ m_tbl := m_t2 (List.mem_of_getElem? (i := 112) rfl) rfl
theorem wl_X3_189 : Cond.methodLink RX3 189 yX1_setState ∈ m_tbl := m_t2 (List.mem_of_getElem? (i := 113) rfl) rfl
theorem wi_X1_setState : Cond.instanceMethod yX1_setState ∈ m_tbl := m_t2 (List.mem_of_getElem? (i := 114) rfl) rfl
theorem ws_X1_setState : Cond.selects RX1 yX1_setState yX1_setState ∈ m_tbl := m_t2 (List.mem_of_getElem? (i := 115) rfl) rfl
theorem wc_X1_setState : Cond.code yX1_setState cX1_setState 3 none ∈ m_tbl := m_t2 (List.mem_of_getElem? (i := 116) rfl) rfl
theorem wl_L_18 : Cond.methodLink RL 18 yX7_fail ∈ m_tbl := m_t2 (List.mem_of_getElem? (i := 117) rfl) rfl
theorem wi_X7_fail : Cond.instanceMethod yX7_fail ∈ m_tbl := m_t2 (List.mem_of_getElem? (i := 118) rfl) rfl
theorem ws_X7_fail : Cond.selects RX7 yX7_fail yX7_fail ∈ m_tbl := m_t2 (List.mem_of_getElem? (i := 119) rfl) rfl
theorem wc_X7_fail : Cond.code yX7_fail cX7_fail 2 (some .int) ∈ m_tbl := m_t2 (List.mem_of_getElem? (i := 120) rfl) rfl
theorem wl_X7_45 : Cond.methodLink RX7 45 yX3_isClient ∈ m_tbl := m_t2 (List.mem_of_getElem? (i := 121) rfl) rfl
theorem wl_X7_49 : Cond.methodLink RX7 49 yX3_loseClient ∈ m_tbl := m_t2 (List.mem_of_getElem? (i := 122) rfl) rfl
theorem wi_X3_loseClient : Cond.instanceMethod yX3_loseClient ∈ m_tbl := m_t2 (List.mem_of_getElem? (i := 123) rfl) rfl
theorem ws_X3_loseClient : Cond.selects RX3 yX3_loseClient yX3_loseClient ∈ m_tbl := m_t2 (List.mem_of_getElem? (i := 124) rfl) rfl
theorem wc_X3_loseClient : Cond.code yX3_loseClient cX3_loseClient 3 (some .int) ∈ m_tbl := m_t2 (List.mem_of_getElem? (i := 125) rfl) rfl
theorem wl_X3_131 : Cond.methodLink RX3 131 yX0_stateOf ∈ m_tbl := m_t2 (List.mem_of_getElem? (i := 126) rfl) rfl
theorem wi_X0_stateOf : Cond.instanceMethod yX0_stateOf ∈ m_tbl := m_t2 (List.mem_of_getElem? (i := 127) rfl) rfl
theorem ws_X0_stateOf : Cond.selects RX0 yX0_stateOf yX0_stateOf ∈ m_tbl := m_t2 (List.mem_of_getElem? (i := 128) rfl) rfl
theorem wc_X0_stateOf : Cond.code yX0_stateOf cX0_stateOf 2 (some .int) ∈ m_tbl := m_t2 (List.mem_of_getElem? (i := 129) rfl) rfl
theorem wl_X0_51 : Cond.methodLink RX0 51 yX0_has ∈ m_tbl := m_t2 (List.mem_of_getElem? (i := 130) rfl) rfl
theorem wi_X0_has : Cond.instanceMethod yX0_has ∈ m_tbl := m_t2 (List.mem_of_getElem? (i := 131) rfl) rfl
theorem ws_X0_has : Cond.selects RX0 yX0_has yX0_has ∈ m_tbl := m_t2 (List.mem_of_getElem? (i := 132) rfl) rfl
theorem wc_X0_has : Cond.code yX0_has cX0_has 2 (some .boolean) ∈ m_tbl := m_t2 (List.mem_of_getElem? (i := 133) rfl) rfl
theorem wl_X3_134 : Cond.methodLink RX3 134 yX3_leaveGathering ∈ m_tbl := m_t2 (List.mem_of_getElem? (i := 134) rfl) rfl
theorem wi_X3_leaveGathering : Cond.instanceMethod yX3_leaveGathering ∈ m_tbl := m_t2 (List.mem_of_getElem? (i := 136) rfl) rfl
theorem wc_X3_leaveGathering : Cond.code yX3_leaveGathering cX3_leaveGathering 3 none ∈ m_tbl := m_t2 (List.mem_of_getElem? (i := 137) rfl) rfl
theorem wl_X3_179 : Cond.methodLink RX3 179 yX0_memberAt ∈ m_tbl := m_t2 (List.mem_of_getElem? (i := 138) rfl) rfl
theorem wi_X0_memberAt : Cond.instanceMethod yX0_memberAt ∈ m_tbl := m_t2 (List.mem_of_getElem? (i := 139) rfl) rfl
theorem ws_X0_memberAt : Cond.selects RX0 yX0_memberAt yX0_memberAt ∈ m_tbl := m_t2 (List.mem_of_getElem? (i := 140) rfl) rfl
theorem wc_X0_memberAt : Cond.code yX0_memberAt cX0_memberAt 5 (some .int) ∈ m_tbl := m_t2 (List.mem_of_getElem? (i := 141) rfl) rfl
theorem wl_X3_182 : Cond.methodLink RX3 182 yX0_leaveGroup ∈ m_tbl := m_t2 (List.mem_of_getElem? (i := 142) rfl) rfl
theorem wi_X0_leaveGroup : Cond.instanceMethod yX0_leaveGroup ∈ m_tbl := m_t2 (List.mem_of_getElem? (i := 143) rfl) rfl
theorem ws_X0_leaveGroup : Cond.selects RX0 yX0_leaveGroup yX0_leaveGroup ∈ m_tbl := m_t2 (List.mem_of_getElem? (i := 144) rfl) rfl
theorem wc_X0_leaveGroup : Cond.code yX0_leaveGroup cX0_leaveGroup 2 none ∈ m_tbl := m_t2 (List.mem_of_getElem? (i := 145) rfl) rfl
theorem wl_X3_185 : Cond.methodLink RX3 185 yX0_recordsOf ∈ m_tbl := m_t2 (List.mem_of_getElem? (i := 146) rfl) rfl
theorem wi_X0_recordsOf : Cond.instanceMethod yX0_recordsOf ∈ m_tbl := m_t2 (List.mem_of_getElem? (i := 147) rfl) rfl
theorem ws_X0_recordsOf : Cond.selects RX0 yX0_recordsOf yX0_recordsOf ∈ m_tbl := m_t2 (List.mem_of_getElem? (i := 148) rfl) rfl
theorem wc_X0_recordsOf : Cond.code yX0_recordsOf cX0_recordsOf 2 (some .int) ∈ m_tbl := m_t2 (List.mem_of_getElem? (i := 149) rfl) rfl
theorem wl_X3_186 : Cond.methodLink RX3 186 yX1_leave ∈ m_tbl := m_t2 (List.mem_of_getElem? (i := 150) rfl) rfl
theorem wi_X1_leave : Cond.instanceMethod yX1_leave ∈ m_tbl := m_t2 (List.mem_of_getElem? (i := 151) rfl) rfl
theorem ws_X1_leave : Cond.selects RX1 yX1_leave yX1_leave ∈ m_tbl := m_t2 (List.mem_of_getElem? (i := 152) rfl) rfl
theorem wc_X1_leave : Cond.code yX1_leave cX1_leave 3 none ∈ m_tbl := m_t2 (List.mem_of_getElem? (i := 153) rfl) rfl
theorem wl_X3_137 : Cond.methodLink RX3 137 yX3_endCommit ∈ m_tbl := m_t2 (List.mem_of_getElem? (i := 154) rfl) rfl
theorem wi_X3_endCommit : Cond.instanceMethod yX3_endCommit ∈ m_tbl := m_t2 (List.mem_of_getElem? (i := 156) rfl) rfl
theorem wc_X3_endCommit : Cond.code yX3_endCommit cX3_endCommit 3 none ∈ m_tbl := m_t2 (List.mem_of_getElem? (i := 157) rfl) rfl
theorem wl_X3_146 : Cond.methodLink RX3 146 yX0_setState ∈ m_tbl := m_t2 (List.mem_of_getElem? (i := 158) rfl) rfl
theorem wi_X0_setState : Cond.instanceMethod yX0_setState ∈ m_tbl := m_t2 (List.mem_of_getElem? (i := 159) rfl) rfl
theorem ws_X0_setState : Cond.selects RX0 yX0_setState yX0_setState ∈ m_tbl := m_t2 (List.mem_of_getElem? (i := 160) rfl) rfl
theorem wc_X0_setState : Cond.code yX0_setState cX0_setState 3 none ∈ m_tbl := m_t2 (List.mem_of_getElem? (i := 161) rfl) rfl
theorem wl_X3_149 : Cond.methodLink RX3 149 yX0_clientOf ∈ m_tbl := m_t2 (List.mem_of_getElem? (i := 162) rfl) rfl
theorem wi_X0_clientOf : Cond.instanceMethod yX0_clientOf ∈ m_tbl := m_t2 (List.mem_of_getElem? (i := 163) rfl) rfl
theorem ws_X0_clientOf : Cond.selects RX0 yX0_clientOf yX0_clientOf ∈ m_tbl := m_t2 (List.mem_of_getElem? (i := 164) rfl) rfl
theorem wc_X0_clientOf : Cond.code yX0_clientOf cX0_clientOf 2 (some .int) ∈ m_tbl := m_t2 (List.mem_of_getElem? (i := 165) rfl) rfl
theorem wl_L_23 : Cond.methodLink RL 23 yX7_withdraw ∈ m_tbl := m_t2 (List.mem_of_getElem? (i := 166) rfl) rfl
theorem wi_X7_withdraw : Cond.instanceMethod yX7_withdraw ∈ m_tbl := m_t2 (List.mem_of_getElem? (i := 167) rfl) rfl
theorem ws_X7_withdraw : Cond.selects RX7 yX7_withdraw yX7_withdraw ∈ m_tbl := m_t2 (List.mem_of_getElem? (i := 168) rfl) rfl
theorem wc_X7_withdraw : Cond.code yX7_withdraw cX7_withdraw 3 (some .int) ∈ m_tbl := m_t2 (List.mem_of_getElem? (i := 169) rfl) rfl
theorem wl_X7_53 : Cond.methodLink RX7 53 yX3_refusalToTakeBack ∈ m_tbl := m_t2 (List.mem_of_getElem? (i := 170) rfl) rfl
theorem wi_X3_refusalToTakeBack : Cond.instanceMethod yX3_refusalToTakeBack ∈ m_tbl := m_t2 (List.mem_of_getElem? (i := 171) rfl) rfl
theorem ws_X3_refusalToTakeBack : Cond.selects RX3 yX3_refusalToTakeBack yX3_refusalToTakeBack ∈ m_tbl := m_t2 (List.mem_of_getElem? (i := 172) rfl) rfl
theorem wc_X3_refusalToTakeBack : Cond.code yX3_refusalToTakeBack cX3_refusalToTakeBack 3 (some .int) ∈ m_tbl := m_t2 (List.mem_of_getElem? (i := 173) rfl) rfl
theorem wl_X7_56 : Cond.methodLink RX7 56 yX3_takeBack ∈ m_tbl := m_t2 (List.mem_of_getElem? (i := 174) rfl) rfl
theorem wi_X3_takeBack : Cond.instanceMethod yX3_takeBack ∈ m_tbl := m_t2 (List.mem_of_getElem? (i := 175) rfl) rfl
theorem ws_X3_takeBack : Cond.selects RX3 yX3_takeBack yX3_takeBack ∈ m_tbl := m_t2 (List.mem_of_getElem? (i := 176) rfl) rfl
theorem wc_X3_takeBack : Cond.code yX3_takeBack cX3_takeBack 3 (some .int) ∈ m_tbl := m_t2 (List.mem_of_getElem? (i := 177) rfl) rfl
theorem wl_X3_140 : Cond.methodLink RX3 140 yX0_groupOf ∈ m_tbl := m_t2 (List.mem_of_getElem? (i := 178) rfl) rfl
theorem wi_X0_groupOf : Cond.instanceMethod yX0_groupOf ∈ m_tbl := m_t2 (List.mem_of_getElem? (i := 179) rfl) rfl
theorem ws_X0_groupOf : Cond.selects RX0 yX0_groupOf yX0_groupOf ∈ m_tbl := m_t2 (List.mem_of_getElem? (i := 180) rfl) rfl
theorem wc_X0_groupOf : Cond.code yX0_groupOf cX0_groupOf 2 (some .int) ∈ m_tbl := m_t2 (List.mem_of_getElem? (i := 181) rfl) rfl
theorem wl_L_27 : Cond.methodLink RL 27 yX7_crash ∈ m_tbl := m_t2 (List.mem_of_getElem? (i := 182) rfl) rfl
theorem wi_X7_crash : Cond.instanceMethod yX7_crash ∈ m_tbl := m_t2 (List.mem_of_getElem? (i := 183) rfl) rfl
theorem ws_X7_crash : Cond.selects RX7 yX7_crash yX7_crash ∈ m_tbl := m_t2 (List.mem_of_getElem? (i := 184) rfl) rfl
theorem wc_X7_crash : Cond.code yX7_crash cX7_crash 1 (some .int) ∈ m_tbl := m_t2 (List.mem_of_getElem? (i := 185) rfl) rfl
theorem wl_X7_59 : Cond.methodLink RX7 59 yX3_loseAll ∈ m_tbl := m_t2 (List.mem_of_getElem? (i := 186) rfl) rfl
theorem wi_X3_loseAll : Cond.instanceMethod yX3_loseAll ∈ m_tbl := m_t2 (List.mem_of_getElem? (i := 187) rfl) rfl
theorem ws_X3_loseAll : Cond.selects RX3 yX3_loseAll yX3_loseAll ∈ m_tbl := m_t2 (List.mem_of_getElem? (i := 188) rfl) rfl
theorem wc_X3_loseAll : Cond.code yX3_loseAll cX3_loseAll 3 (some .int) ∈ m_tbl := m_t2 (List.mem_of_getElem? (i := 189) rfl) rfl
theorem wl_X3_214 : Cond.methodLink RX3 214 yX3_dropGroups ∈ m_tbl := m_t2 (List.mem_of_getElem? (i := 190) rfl) rfl
theorem wi_X3_dropGroups : Cond.instanceMethod yX3_dropGroups ∈ m_tbl := m_t2 (List.mem_of_getElem? (i := 192) rfl) rfl
theorem wc_X3_dropGroups : Cond.code yX3_dropGroups cX3_dropGroups 3 none ∈ m_tbl := m_t2 (List.mem_of_getElem? (i := 193) rfl) rfl
theorem wl_L_32 : Cond.methodLink RL 32 yX7_tick ∈ m_tbl := m_t2 (List.mem_of_getElem? (i := 194) rfl) rfl
theorem wi_X7_tick : Cond.instanceMethod yX7_tick ∈ m_tbl := m_t2 (List.mem_of_getElem? (i := 195) rfl) rfl
theorem ws_X7_tick : Cond.selects RX7 yX7_tick yX7_tick ∈ m_tbl := m_t2 (List.mem_of_getElem? (i := 196) rfl) rfl
theorem wc_X7_tick : Cond.code yX7_tick cX7_tick 2 (some .int) ∈ m_tbl := m_t2 (List.mem_of_getElem? (i := 197) rfl) rfl
theorem wl_X7_63 : Cond.methodLink RX7 63 yX3_passTicks ∈ m_tbl := m_t2 (List.mem_of_getElem? (i := 198) rfl) rfl
theorem wi_X3_passTicks : Cond.instanceMethod yX3_passTicks ∈ m_tbl := m_t2 (List.mem_of_getElem? (i := 199) rfl) rfl
theorem ws_X3_passTicks : Cond.selects RX3 yX3_passTicks yX3_passTicks ∈ m_tbl := m_t2 (List.mem_of_getElem? (i := 200) rfl) rfl
theorem wc_X3_passTicks : Cond.code yX3_passTicks cX3_passTicks 4 (some .int) ∈ m_tbl := m_t2 (List.mem_of_getElem? (i := 201) rfl) rfl
theorem wl_X3_202 : Cond.methodLink RX3 202 yX3_passTick ∈ m_tbl := m_t2 (List.mem_of_getElem? (i := 202) rfl) rfl
theorem wi_X3_passTick : Cond.instanceMethod yX3_passTick ∈ m_tbl := m_t2 (List.mem_of_getElem? (i := 204) rfl) rfl
theorem wc_X3_passTick : Cond.code yX3_passTick cX3_passTick 2 (some .int) ∈ m_tbl := m_t2 (List.mem_of_getElem? (i := 205) rfl) rfl
theorem wl_X3_205 : Cond.methodLink RX3 205 yX3_finishWriting ∈ m_tbl := m_t2 (List.mem_of_getElem? (i := 206) rfl) rfl
theorem wi_X3_finishWriting : Cond.instanceMethod yX3_finishWriting ∈ m_tbl := m_t2 (List.mem_of_getElem? (i := 208) rfl) rfl
theorem wc_X3_finishWriting : Cond.code yX3_finishWriting cX3_finishWriting 5 (some .int) ∈ m_tbl := m_t2 (List.mem_of_getElem? (i := 209) rfl) rfl
theorem wl_X3_208 : Cond.methodLink RX3 208 yX0_answer ∈ m_tbl := m_t2 (List.mem_of_getElem? (i := 210) rfl) rfl
theorem wi_X0_answer : Cond.instanceMethod yX0_answer ∈ m_tbl := m_t2 (List.mem_of_getElem? (i := 211) rfl) rfl
theorem ws_X0_answer : Cond.selects RX0 yX0_answer yX0_answer ∈ m_tbl := m_t2 (List.mem_of_getElem? (i := 212) rfl) rfl
theorem wc_X0_answer : Cond.code yX0_answer cX0_answer 3 none ∈ m_tbl := m_t2 (List.mem_of_getElem? (i := 213) rfl) rfl
theorem wl_X3_211 : Cond.methodLink RX3 211 yX0_submitTimeOf ∈ m_tbl := m_t2 (List.mem_of_getElem? (i := 214) rfl) rfl
theorem wi_X0_submitTimeOf : Cond.instanceMethod yX0_submitTimeOf ∈ m_tbl := m_t2 (List.mem_of_getElem? (i := 215) rfl) rfl
theorem ws_X0_submitTimeOf : Cond.selects RX0 yX0_submitTimeOf yX0_submitTimeOf ∈ m_tbl := m_t2 (List.mem_of_getElem? (i := 216) rfl) rfl
theorem wc_X0_submitTimeOf : Cond.code yX0_submitTimeOf cX0_submitTimeOf 2 (some .int) ∈ m_tbl := m_t2 (List.mem_of_getElem? (i := 217) rfl) rfl
theorem wl_L_36 : Cond.methodLink RL 36 yX7_set ∈ m_tbl := m_t2 (List.mem_of_getElem? (i := 218) rfl) rfl
theorem wi_X7_set : Cond.instanceMethod yX7_set ∈ m_tbl := m_t2 (List.mem_of_getElem? (i := 219) rfl) rfl
theorem ws_X7_set : Cond.selects RX7 yX7_set yX7_set ∈ m_tbl := m_t2 (List.mem_of_getElem? (i := 220) rfl) rfl
theorem wc_X7_set : Cond.code yX7_set cX7_set 4 (some .int) ∈ m_tbl := m_t2 (List.mem_of_getElem? (i := 221) rfl) rfl
theorem wl_X7_66 : Cond.methodLink RX7 66 yX6_refusal ∈ m_tbl := m_t2 (List.mem_of_getElem? (i := 222) rfl) rfl
theorem wst_X6_refusal : Cond.static yX6_refusal ∈ m_tbl := m_t2 (List.mem_of_getElem? (i := 223) rfl) rfl
theorem wc_X6_refusal : Cond.code yX6_refusal cX6_refusal 2 (some .int) ∈ m_tbl := m_t2 (List.mem_of_getElem? (i := 224) rfl) rfl
theorem wf_X6_24 : Cond.fieldLink RX6 24 "GroupCommits$Settings" "LEAST" "[I" ∈ m_tbl := m_t2 (List.mem_of_getElem? (i := 225) rfl) rfl
theorem wz_LEAST : Cond.laysStatic "GroupCommits$Settings" "LEAST" "[I" ∈ lw_tbl := m_u2 (List.mem_of_getElem? (i := 226) rfl)
theorem wf_X6_27 : Cond.fieldLink RX6 27 "GroupCommits$Settings" "GREATEST" "[I" ∈ m_tbl := m_t2 (List.mem_of_getElem? (i := 227) rfl) rfl
theorem wz_GREATEST : Cond.laysStatic "GroupCommits$Settings" "GREATEST" "[I" ∈ lw_tbl := m_u2 (List.mem_of_getElem? (i := 228) rfl)
theorem wl_X7_71 : Cond.methodLink RX7 71 yX3_change ∈ m_tbl := m_t2 (List.mem_of_getElem? (i := 229) rfl) rfl
theorem wi_X3_change : Cond.instanceMethod yX3_change ∈ m_tbl := m_t2 (List.mem_of_getElem? (i := 230) rfl) rfl
theorem ws_X3_change : Cond.selects RX3 yX3_change yX3_change ∈ m_tbl := m_t2 (List.mem_of_getElem? (i := 231) rfl) rfl
theorem wc_X3_change : Cond.code yX3_change cX3_change 3 (some .int) ∈ m_tbl := m_t2 (List.mem_of_getElem? (i := 232) rfl) rfl
theorem wl_X3_199 : Cond.methodLink RX3 199 yX6_change ∈ m_tbl := m_t2 (List.mem_of_getElem? (i := 233) rfl) rfl
theorem wi_X6_change : Cond.instanceMethod yX6_change ∈ m_tbl := m_t2 (List.mem_of_getElem? (i := 234) rfl) rfl
theorem ws_X6_change : Cond.selects RX6 yX6_change yX6_change ∈ m_tbl := m_t2 (List.mem_of_getElem? (i := 235) rfl) rfl
theorem wc_X6_change : Cond.code yX6_change cX6_change 4 (some .int) ∈ m_tbl := m_t2 (List.mem_of_getElem? (i := 236) rfl) rfl
theorem wl_X6_30 : Cond.methodLink RX6 30 yX6_valueOf ∈ m_tbl := m_t2 (List.mem_of_getElem? (i := 237) rfl) rfl
theorem wl_L_41 : Cond.methodLink RL 41 yX7_append ∈ m_tbl := m_t2 (List.mem_of_getElem? (i := 238) rfl) rfl
theorem wi_X7_append : Cond.instanceMethod yX7_append ∈ m_tbl := m_t2 (List.mem_of_getElem? (i := 239) rfl) rfl
theorem ws_X7_append : Cond.selects RX7 yX7_append yX7_append ∈ m_tbl := m_t3 (List.mem_of_getElem? (i := 0) rfl) rfl
theorem wc_X7_append : Cond.code yX7_append cX7_append 2 (some .int) ∈ m_tbl := m_t3 (List.mem_of_getElem? (i := 1) rfl) rfl
theorem wl_X7_74 : Cond.methodLink RX7 74 yX5_add ∈ m_tbl := m_t3 (List.mem_of_getElem? (i := 2) rfl) rfl
theorem wi_X5_add : Cond.instanceMethod yX5_add ∈ m_tbl := m_t3 (List.mem_of_getElem? (i := 3) rfl) rfl
theorem ws_X5_add : Cond.selects RX5 yX5_add yX5_add ∈ m_tbl := m_t3 (List.mem_of_getElem? (i := 4) rfl) rfl
theorem wc_X5_add : Cond.code yX5_add cX5_add 2 (some .int) ∈ m_tbl := m_t3 (List.mem_of_getElem? (i := 5) rfl) rfl
theorem wl_L_45 : Cond.methodLink RL 45 yX7_clearText ∈ m_tbl := m_t3 (List.mem_of_getElem? (i := 6) rfl) rfl
theorem wi_X7_clearText : Cond.instanceMethod yX7_clearText ∈ m_tbl := m_t3 (List.mem_of_getElem? (i := 7) rfl) rfl
theorem ws_X7_clearText : Cond.selects RX7 yX7_clearText yX7_clearText ∈ m_tbl := m_t3 (List.mem_of_getElem? (i := 8) rfl) rfl
theorem wc_X7_clearText : Cond.code yX7_clearText cX7_clearText 1 (some .int) ∈ m_tbl := m_t3 (List.mem_of_getElem? (i := 9) rfl) rfl
theorem wl_X7_77 : Cond.methodLink RX7 77 yX5_empty ∈ m_tbl := m_t3 (List.mem_of_getElem? (i := 10) rfl) rfl
theorem wi_X5_empty : Cond.instanceMethod yX5_empty ∈ m_tbl := m_t3 (List.mem_of_getElem? (i := 11) rfl) rfl
theorem ws_X5_empty : Cond.selects RX5 yX5_empty yX5_empty ∈ m_tbl := m_t3 (List.mem_of_getElem? (i := 12) rfl) rfl
theorem wc_X5_empty : Cond.code yX5_empty cX5_empty 2 (some .int) ∈ m_tbl := m_t3 (List.mem_of_getElem? (i := 13) rfl) rfl
theorem wl_L_49 : Cond.methodLink RL 49 yX7_fault ∈ m_tbl := m_t3 (List.mem_of_getElem? (i := 14) rfl) rfl
theorem wi_X7_fault : Cond.instanceMethod yX7_fault ∈ m_tbl := m_t3 (List.mem_of_getElem? (i := 15) rfl) rfl
theorem ws_X7_fault : Cond.selects RX7 yX7_fault yX7_fault ∈ m_tbl := m_t3 (List.mem_of_getElem? (i := 16) rfl) rfl
theorem wc_X7_fault : Cond.code yX7_fault cX7_fault 1 (some .int) ∈ m_tbl := m_t3 (List.mem_of_getElem? (i := 17) rfl) rfl
theorem wl_X7_80 : Cond.methodLink RX7 80 yX5_firstFault ∈ m_tbl := m_t3 (List.mem_of_getElem? (i := 18) rfl) rfl
theorem wi_X5_firstFault : Cond.instanceMethod yX5_firstFault ∈ m_tbl := m_t3 (List.mem_of_getElem? (i := 19) rfl) rfl
theorem ws_X5_firstFault : Cond.selects RX5 yX5_firstFault yX5_firstFault ∈ m_tbl := m_t3 (List.mem_of_getElem? (i := 20) rfl) rfl
theorem wc_X5_firstFault : Cond.code yX5_firstFault cX5_firstFault 3 (some .int) ∈ m_tbl := m_t3 (List.mem_of_getElem? (i := 21) rfl) rfl
theorem wl_X5_19 : Cond.methodLink RX5 19 yX5_characterAt ∈ m_tbl := m_t3 (List.mem_of_getElem? (i := 22) rfl) rfl
theorem wi_X5_characterAt : Cond.instanceMethod yX5_characterAt ∈ m_tbl := m_t3 (List.mem_of_getElem? (i := 24) rfl) rfl
theorem wc_X5_characterAt : Cond.code yX5_characterAt cX5_characterAt 2 (some .char) ∈ m_tbl := m_t3 (List.mem_of_getElem? (i := 25) rfl) rfl
theorem wl_X5_23 : Cond.methodLink RX5 23 yX5_after ∈ m_tbl := m_t3 (List.mem_of_getElem? (i := 26) rfl) rfl
theorem wst_X5_after : Cond.static yX5_after ∈ m_tbl := m_t3 (List.mem_of_getElem? (i := 27) rfl) rfl
theorem wc_X5_after : Cond.code yX5_after cX5_after 2 (some .int) ∈ m_tbl := m_t3 (List.mem_of_getElem? (i := 28) rfl) rfl
theorem wl_X5_27 : Cond.methodLink RX5 27 yX5_isComplete ∈ m_tbl := m_t3 (List.mem_of_getElem? (i := 29) rfl) rfl
theorem wst_X5_isComplete : Cond.static yX5_isComplete ∈ m_tbl := m_t3 (List.mem_of_getElem? (i := 30) rfl) rfl
theorem wc_X5_isComplete : Cond.code yX5_isComplete cX5_isComplete 1 (some .boolean) ∈ m_tbl := m_t3 (List.mem_of_getElem? (i := 31) rfl) rfl
theorem wl_X5_31 : Cond.methodLink RX5 31 yX5_afterFirst ∈ m_tbl := m_t3 (List.mem_of_getElem? (i := 32) rfl) rfl
theorem wst_X5_afterFirst : Cond.static yX5_afterFirst ∈ m_tbl := m_t3 (List.mem_of_getElem? (i := 33) rfl) rfl
theorem wc_X5_afterFirst : Cond.code yX5_afterFirst cX5_afterFirst 1 (some .int) ∈ m_tbl := m_t3 (List.mem_of_getElem? (i := 34) rfl) rfl
theorem wl_X5_35 : Cond.methodLink RX5 35 yX5_isDigit ∈ m_tbl := m_t3 (List.mem_of_getElem? (i := 35) rfl) rfl
theorem wst_X5_isDigit : Cond.static yX5_isDigit ∈ m_tbl := m_t3 (List.mem_of_getElem? (i := 36) rfl) rfl
theorem wc_X5_isDigit : Cond.code yX5_isDigit cX5_isDigit 1 (some .boolean) ∈ m_tbl := m_t3 (List.mem_of_getElem? (i := 37) rfl) rfl
theorem wl_L_53 : Cond.methodLink RL 53 yX7_run ∈ m_tbl := m_t3 (List.mem_of_getElem? (i := 38) rfl) rfl
theorem wi_X7_run : Cond.instanceMethod yX7_run ∈ m_tbl := m_t3 (List.mem_of_getElem? (i := 39) rfl) rfl
theorem ws_X7_run : Cond.selects RX7 yX7_run yX7_run ∈ m_tbl := m_t3 (List.mem_of_getElem? (i := 40) rfl) rfl
theorem wc_X7_run : Cond.code yX7_run cX7_run 4 (some .int) ∈ m_tbl := m_t3 (List.mem_of_getElem? (i := 41) rfl) rfl
theorem wl_X7_83 : Cond.methodLink RX7 83 yX5_orders ∈ m_tbl := m_t3 (List.mem_of_getElem? (i := 42) rfl) rfl
theorem wi_X5_orders : Cond.instanceMethod yX5_orders ∈ m_tbl := m_t3 (List.mem_of_getElem? (i := 43) rfl) rfl
theorem ws_X5_orders : Cond.selects RX5 yX5_orders yX5_orders ∈ m_tbl := m_t3 (List.mem_of_getElem? (i := 44) rfl) rfl
theorem wc_X5_orders : Cond.code yX5_orders cX5_orders 3 (some .int) ∈ m_tbl := m_t3 (List.mem_of_getElem? (i := 45) rfl) rfl
theorem wl_X7_86 : Cond.methodLink RX7 86 yX5_goToStart ∈ m_tbl := m_t3 (List.mem_of_getElem? (i := 46) rfl) rfl
theorem wi_X5_goToStart : Cond.instanceMethod yX5_goToStart ∈ m_tbl := m_t3 (List.mem_of_getElem? (i := 47) rfl) rfl
theorem ws_X5_goToStart : Cond.selects RX5 yX5_goToStart yX5_goToStart ∈ m_tbl := m_t3 (List.mem_of_getElem? (i := 48) rfl) rfl
theorem wc_X5_goToStart : Cond.code yX5_goToStart cX5_goToStart 1 none ∈ m_tbl := m_t3 (List.mem_of_getElem? (i := 49) rfl) rfl
theorem wl_X7_89 : Cond.methodLink RX7 89 yX5_readOrder ∈ m_tbl := m_t3 (List.mem_of_getElem? (i := 50) rfl) rfl
theorem wi_X5_readOrder : Cond.instanceMethod yX5_readOrder ∈ m_tbl := m_t3 (List.mem_of_getElem? (i := 51) rfl) rfl
theorem ws_X5_readOrder : Cond.selects RX5 yX5_readOrder yX5_readOrder ∈ m_tbl := m_t3 (List.mem_of_getElem? (i := 52) rfl) rfl
theorem wc_X5_readOrder : Cond.code yX5_readOrder cX5_readOrder 1 none ∈ m_tbl := m_t3 (List.mem_of_getElem? (i := 53) rfl) rfl
theorem wl_X5_42 : Cond.methodLink RX5 42 yX5_kindOf ∈ m_tbl := m_t3 (List.mem_of_getElem? (i := 54) rfl) rfl
theorem wst_X5_kindOf : Cond.static yX5_kindOf ∈ m_tbl := m_t3 (List.mem_of_getElem? (i := 55) rfl) rfl
theorem wc_X5_kindOf : Cond.code yX5_kindOf cX5_kindOf 1 (some .int) ∈ m_tbl := m_t3 (List.mem_of_getElem? (i := 56) rfl) rfl
theorem wl_X5_48 : Cond.methodLink RX5 48 yX5_readNumber ∈ m_tbl := m_t3 (List.mem_of_getElem? (i := 57) rfl) rfl
theorem wi_X5_readNumber : Cond.instanceMethod yX5_readNumber ∈ m_tbl := m_t3 (List.mem_of_getElem? (i := 59) rfl) rfl
theorem wc_X5_readNumber : Cond.code yX5_readNumber cX5_readNumber 3 (some .int) ∈ m_tbl := m_t3 (List.mem_of_getElem? (i := 60) rfl) rfl
theorem wl_X5_55 : Cond.methodLink RX5 55 yX5_readRecords ∈ m_tbl := m_t3 (List.mem_of_getElem? (i := 61) rfl) rfl
theorem wi_X5_readRecords : Cond.instanceMethod yX5_readRecords ∈ m_tbl := m_t3 (List.mem_of_getElem? (i := 63) rfl) rfl
theorem wc_X5_readRecords : Cond.code yX5_readRecords cX5_readRecords 1 none ∈ m_tbl := m_t3 (List.mem_of_getElem? (i := 64) rfl) rfl
theorem wl_X7_92 : Cond.methodLink RX7 92 yX7_carryOutOrder ∈ m_tbl := m_t3 (List.mem_of_getElem? (i := 65) rfl) rfl
theorem wi_X7_carryOutOrder : Cond.instanceMethod yX7_carryOutOrder ∈ m_tbl := m_t3 (List.mem_of_getElem? (i := 67) rfl) rfl
theorem wc_X7_carryOutOrder : Cond.code yX7_carryOutOrder cX7_carryOutOrder 2 (some .boolean) ∈ m_tbl := m_t3 (List.mem_of_getElem? (i := 68) rfl) rfl
theorem wl_X7_96 : Cond.methodLink RX7 96 yX5_number ∈ m_tbl := m_t3 (List.mem_of_getElem? (i := 69) rfl) rfl
theorem wi_X5_number : Cond.instanceMethod yX5_number ∈ m_tbl := m_t3 (List.mem_of_getElem? (i := 70) rfl) rfl
theorem ws_X5_number : Cond.selects RX5 yX5_number yX5_number ∈ m_tbl := m_t3 (List.mem_of_getElem? (i := 71) rfl) rfl
theorem wc_X5_number : Cond.code yX5_number cX5_number 1 (some .int) ∈ m_tbl := m_t3 (List.mem_of_getElem? (i := 72) rfl) rfl
theorem wl_X7_99 : Cond.methodLink RX7 99 yX5_kind ∈ m_tbl := m_t3 (List.mem_of_getElem? (i := 73) rfl) rfl
theorem wi_X5_kind : Cond.instanceMethod yX5_kind ∈ m_tbl := m_t3 (List.mem_of_getElem? (i := 74) rfl) rfl
theorem ws_X5_kind : Cond.selects RX5 yX5_kind yX5_kind ∈ m_tbl := m_t3 (List.mem_of_getElem? (i := 75) rfl) rfl
theorem wc_X5_kind : Cond.code yX5_kind cX5_kind 1 (some .int) ∈ m_tbl := m_t3 (List.mem_of_getElem? (i := 76) rfl) rfl
theorem wl_X7_102 : Cond.methodLink RX7 102 yX5_records ∈ m_tbl := m_t3 (List.mem_of_getElem? (i := 77) rfl) rfl
theorem wi_X5_records : Cond.instanceMethod yX5_records ∈ m_tbl := m_t3 (List.mem_of_getElem? (i := 78) rfl) rfl
theorem ws_X5_records : Cond.selects RX5 yX5_records yX5_records ∈ m_tbl := m_t3 (List.mem_of_getElem? (i := 79) rfl) rfl
theorem wc_X5_records : Cond.code yX5_records cX5_records 1 (some .int) ∈ m_tbl := m_t3 (List.mem_of_getElem? (i := 80) rfl) rfl
theorem wl_X7_105 : Cond.methodLink RX7 105 yX5_isUrgent ∈ m_tbl := m_t3 (List.mem_of_getElem? (i := 81) rfl) rfl
theorem wi_X5_isUrgent : Cond.instanceMethod yX5_isUrgent ∈ m_tbl := m_t3 (List.mem_of_getElem? (i := 82) rfl) rfl
theorem ws_X5_isUrgent : Cond.selects RX5 yX5_isUrgent yX5_isUrgent ∈ m_tbl := m_t3 (List.mem_of_getElem? (i := 83) rfl) rfl
theorem wc_X5_isUrgent : Cond.code yX5_isUrgent cX5_isUrgent 1 (some .boolean) ∈ m_tbl := m_t3 (List.mem_of_getElem? (i := 84) rfl) rfl
theorem wl_L_57 : Cond.methodLink RL 57 yX7_undo ∈ m_tbl := m_t3 (List.mem_of_getElem? (i := 85) rfl) rfl
theorem wi_X7_undo : Cond.instanceMethod yX7_undo ∈ m_tbl := m_t3 (List.mem_of_getElem? (i := 86) rfl) rfl
theorem ws_X7_undo : Cond.selects RX7 yX7_undo yX7_undo ∈ m_tbl := m_t3 (List.mem_of_getElem? (i := 87) rfl) rfl
theorem wc_X7_undo : Cond.code yX7_undo cX7_undo 1 (some .int) ∈ m_tbl := m_t3 (List.mem_of_getElem? (i := 88) rfl) rfl
theorem wl_X7_108 : Cond.methodLink RX7 108 yX2_popInto ∈ m_tbl := m_t3 (List.mem_of_getElem? (i := 89) rfl) rfl
theorem wi_X2_popInto : Cond.instanceMethod yX2_popInto ∈ m_tbl := m_t3 (List.mem_of_getElem? (i := 90) rfl) rfl
theorem ws_X2_popInto : Cond.selects RX2 yX2_popInto yX2_popInto ∈ m_tbl := m_t3 (List.mem_of_getElem? (i := 91) rfl) rfl
theorem wc_X2_popInto : Cond.code yX2_popInto cX2_popInto 2 (some .int) ∈ m_tbl := m_t3 (List.mem_of_getElem? (i := 92) rfl) rfl
theorem wl_L_61 : Cond.methodLink RL 61 yX7_save ∈ m_tbl := m_t3 (List.mem_of_getElem? (i := 93) rfl) rfl
theorem wi_X7_save : Cond.instanceMethod yX7_save ∈ m_tbl := m_t3 (List.mem_of_getElem? (i := 94) rfl) rfl
theorem ws_X7_save : Cond.selects RX7 yX7_save yX7_save ∈ m_tbl := m_t3 (List.mem_of_getElem? (i := 95) rfl) rfl
theorem wc_X7_save : Cond.code yX7_save cX7_save 1 (some .int) ∈ m_tbl := m_t3 (List.mem_of_getElem? (i := 96) rfl) rfl
theorem wl_X7_112 : Cond.methodLink RX7 112 yX3_copyFrom ∈ m_tbl := m_t3 (List.mem_of_getElem? (i := 97) rfl) rfl
theorem wl_X7_119 : Cond.methodLink RX7 119 yX3_time ∈ m_tbl := m_t3 (List.mem_of_getElem? (i := 98) rfl) rfl
theorem wi_X3_time : Cond.instanceMethod yX3_time ∈ m_tbl := m_t3 (List.mem_of_getElem? (i := 99) rfl) rfl
theorem ws_X3_time : Cond.selects RX3 yX3_time yX3_time ∈ m_tbl := m_t3 (List.mem_of_getElem? (i := 100) rfl) rfl
theorem wc_X3_time : Cond.code yX3_time cX3_time 1 (some .int) ∈ m_tbl := m_t3 (List.mem_of_getElem? (i := 101) rfl) rfl
theorem wl_L_65 : Cond.methodLink RL 65 yX7_restore ∈ m_tbl := m_t3 (List.mem_of_getElem? (i := 102) rfl) rfl
theorem wi_X7_restore : Cond.instanceMethod yX7_restore ∈ m_tbl := m_t3 (List.mem_of_getElem? (i := 103) rfl) rfl
theorem ws_X7_restore : Cond.selects RX7 yX7_restore yX7_restore ∈ m_tbl := m_t3 (List.mem_of_getElem? (i := 104) rfl) rfl
theorem wc_X7_restore : Cond.code yX7_restore cX7_restore 1 (some .int) ∈ m_tbl := m_t3 (List.mem_of_getElem? (i := 105) rfl) rfl
theorem wl_L_69 : Cond.methodLink RL 69 yX7_commit ∈ m_tbl := m_t3 (List.mem_of_getElem? (i := 106) rfl) rfl
theorem wi_X7_commit : Cond.instanceMethod yX7_commit ∈ m_tbl := m_t3 (List.mem_of_getElem? (i := 107) rfl) rfl
theorem ws_X7_commit : Cond.selects RX7 yX7_commit yX7_commit ∈ m_tbl := m_t3 (List.mem_of_getElem? (i := 108) rfl) rfl
theorem wc_X7_commit : Cond.code yX7_commit cX7_commit 3 (some .int) ∈ m_tbl := m_t3 (List.mem_of_getElem? (i := 109) rfl) rfl
theorem wl_X7_122 : Cond.methodLink RX7 122 yX3_aboutCommit ∈ m_tbl := m_t3 (List.mem_of_getElem? (i := 110) rfl) rfl
theorem wi_X3_aboutCommit : Cond.instanceMethod yX3_aboutCommit ∈ m_tbl := m_t3 (List.mem_of_getElem? (i := 111) rfl) rfl
theorem ws_X3_aboutCommit : Cond.selects RX3 yX3_aboutCommit yX3_aboutCommit ∈ m_tbl := m_t3 (List.mem_of_getElem? (i := 112) rfl) rfl
theorem wc_X3_aboutCommit : Cond.code yX3_aboutCommit cX3_aboutCommit 3 (some .int) ∈ m_tbl := m_t3 (List.mem_of_getElem? (i := 113) rfl) rfl
theorem wl_X3_217 : Cond.methodLink RX3 217 yX0_has ∈ m_tbl := m_t3 (List.mem_of_getElem? (i := 114) rfl) rfl
theorem wl_X3_220 : Cond.methodLink RX3 220 yX0_isUrgent ∈ m_tbl := m_t3 (List.mem_of_getElem? (i := 115) rfl) rfl
theorem wi_X0_isUrgent : Cond.instanceMethod yX0_isUrgent ∈ m_tbl := m_t3 (List.mem_of_getElem? (i := 116) rfl) rfl
theorem ws_X0_isUrgent : Cond.selects RX0 yX0_isUrgent yX0_isUrgent ∈ m_tbl := m_t3 (List.mem_of_getElem? (i := 117) rfl) rfl
theorem wc_X0_isUrgent : Cond.code yX0_isUrgent cX0_isUrgent 2 (some .boolean) ∈ m_tbl := m_t3 (List.mem_of_getElem? (i := 118) rfl) rfl
theorem wl_X3_223 : Cond.methodLink RX3 223 yX0_answerTimeOf ∈ m_tbl := m_t3 (List.mem_of_getElem? (i := 119) rfl) rfl
theorem wi_X0_answerTimeOf : Cond.instanceMethod yX0_answerTimeOf ∈ m_tbl := m_t3 (List.mem_of_getElem? (i := 120) rfl) rfl
theorem ws_X0_answerTimeOf : Cond.selects RX0 yX0_answerTimeOf yX0_answerTimeOf ∈ m_tbl := m_t3 (List.mem_of_getElem? (i := 121) rfl) rfl
theorem wc_X0_answerTimeOf : Cond.code yX0_answerTimeOf cX0_answerTimeOf 2 (some .int) ∈ m_tbl := m_t3 (List.mem_of_getElem? (i := 122) rfl) rfl
theorem wl_L_73 : Cond.methodLink RL 73 yX7_group ∈ m_tbl := m_t3 (List.mem_of_getElem? (i := 123) rfl) rfl
theorem wi_X7_group : Cond.instanceMethod yX7_group ∈ m_tbl := m_t3 (List.mem_of_getElem? (i := 124) rfl) rfl
theorem ws_X7_group : Cond.selects RX7 yX7_group yX7_group ∈ m_tbl := m_t3 (List.mem_of_getElem? (i := 125) rfl) rfl
theorem wc_X7_group : Cond.code yX7_group cX7_group 3 (some .int) ∈ m_tbl := m_t3 (List.mem_of_getElem? (i := 126) rfl) rfl
theorem wl_X7_125 : Cond.methodLink RX7 125 yX3_aboutGroup ∈ m_tbl := m_t3 (List.mem_of_getElem? (i := 127) rfl) rfl
theorem wi_X3_aboutGroup : Cond.instanceMethod yX3_aboutGroup ∈ m_tbl := m_t3 (List.mem_of_getElem? (i := 128) rfl) rfl
theorem ws_X3_aboutGroup : Cond.selects RX3 yX3_aboutGroup yX3_aboutGroup ∈ m_tbl := m_t3 (List.mem_of_getElem? (i := 129) rfl) rfl
theorem wc_X3_aboutGroup : Cond.code yX3_aboutGroup cX3_aboutGroup 3 (some .int) ∈ m_tbl := m_t3 (List.mem_of_getElem? (i := 130) rfl) rfl
theorem wl_X3_226 : Cond.methodLink RX3 226 yX1_has ∈ m_tbl := m_t3 (List.mem_of_getElem? (i := 131) rfl) rfl
theorem wl_X3_227 : Cond.methodLink RX3 227 yX1_stateOf ∈ m_tbl := m_t3 (List.mem_of_getElem? (i := 132) rfl) rfl
theorem wi_X1_stateOf : Cond.instanceMethod yX1_stateOf ∈ m_tbl := m_t3 (List.mem_of_getElem? (i := 133) rfl) rfl
theorem ws_X1_stateOf : Cond.selects RX1 yX1_stateOf yX1_stateOf ∈ m_tbl := m_t3 (List.mem_of_getElem? (i := 134) rfl) rfl
theorem wc_X1_stateOf : Cond.code yX1_stateOf cX1_stateOf 2 (some .int) ∈ m_tbl := m_t3 (List.mem_of_getElem? (i := 135) rfl) rfl
theorem wl_X3_228 : Cond.methodLink RX3 228 yX1_reasonOf ∈ m_tbl := m_t3 (List.mem_of_getElem? (i := 136) rfl) rfl
theorem wi_X1_reasonOf : Cond.instanceMethod yX1_reasonOf ∈ m_tbl := m_t3 (List.mem_of_getElem? (i := 137) rfl) rfl
theorem ws_X1_reasonOf : Cond.selects RX1 yX1_reasonOf yX1_reasonOf ∈ m_tbl := m_t3 (List.mem_of_getElem? (i := 138) rfl) rfl
theorem wc_X1_reasonOf : Cond.code yX1_reasonOf cX1_reasonOf 2 (some .int) ∈ m_tbl := m_t3 (List.mem_of_getElem? (i := 139) rfl) rfl
theorem wl_L_77 : Cond.methodLink RL 77 yX7_member ∈ m_tbl := m_t3 (List.mem_of_getElem? (i := 140) rfl) rfl
theorem wi_X7_member : Cond.instanceMethod yX7_member ∈ m_tbl := m_t3 (List.mem_of_getElem? (i := 141) rfl) rfl
theorem ws_X7_member : Cond.selects RX7 yX7_member yX7_member ∈ m_tbl := m_t3 (List.mem_of_getElem? (i := 142) rfl) rfl
theorem wc_X7_member : Cond.code yX7_member cX7_member 3 (some .int) ∈ m_tbl := m_t3 (List.mem_of_getElem? (i := 143) rfl) rfl
theorem wl_X7_128 : Cond.methodLink RX7 128 yX3_memberAt ∈ m_tbl := m_t3 (List.mem_of_getElem? (i := 144) rfl) rfl
theorem wi_X3_memberAt : Cond.instanceMethod yX3_memberAt ∈ m_tbl := m_t3 (List.mem_of_getElem? (i := 145) rfl) rfl
theorem ws_X3_memberAt : Cond.selects RX3 yX3_memberAt yX3_memberAt ∈ m_tbl := m_t3 (List.mem_of_getElem? (i := 146) rfl) rfl
theorem wc_X3_memberAt : Cond.code yX3_memberAt cX3_memberAt 3 (some .int) ∈ m_tbl := m_t3 (List.mem_of_getElem? (i := 147) rfl) rfl
theorem wl_L_81 : Cond.methodLink RL 81 yX7_open ∈ m_tbl := m_t3 (List.mem_of_getElem? (i := 148) rfl) rfl
theorem wi_X7_open : Cond.instanceMethod yX7_open ∈ m_tbl := m_t3 (List.mem_of_getElem? (i := 149) rfl) rfl
theorem ws_X7_open : Cond.selects RX7 yX7_open yX7_open ∈ m_tbl := m_t3 (List.mem_of_getElem? (i := 150) rfl) rfl
theorem wc_X7_open : Cond.code yX7_open cX7_open 2 (some .int) ∈ m_tbl := m_t3 (List.mem_of_getElem? (i := 151) rfl) rfl
theorem wl_X7_131 : Cond.methodLink RX7 131 yX3_openCommitOf ∈ m_tbl := m_t3 (List.mem_of_getElem? (i := 152) rfl) rfl
theorem wl_L_85 : Cond.methodLink RL 85 yX7_queued ∈ m_tbl := m_t3 (List.mem_of_getElem? (i := 153) rfl) rfl
theorem wi_X7_queued : Cond.instanceMethod yX7_queued ∈ m_tbl := m_t3 (List.mem_of_getElem? (i := 154) rfl) rfl
theorem ws_X7_queued : Cond.selects RX7 yX7_queued yX7_queued ∈ m_tbl := m_t3 (List.mem_of_getElem? (i := 155) rfl) rfl
theorem wc_X7_queued : Cond.code yX7_queued cX7_queued 2 (some .int) ∈ m_tbl := m_t3 (List.mem_of_getElem? (i := 156) rfl) rfl
theorem wl_X7_134 : Cond.methodLink RX7 134 yX3_queuedAt ∈ m_tbl := m_t3 (List.mem_of_getElem? (i := 157) rfl) rfl
theorem wi_X3_queuedAt : Cond.instanceMethod yX3_queuedAt ∈ m_tbl := m_t3 (List.mem_of_getElem? (i := 158) rfl) rfl
theorem ws_X3_queuedAt : Cond.selects RX3 yX3_queuedAt yX3_queuedAt ∈ m_tbl := m_t3 (List.mem_of_getElem? (i := 159) rfl) rfl
theorem wc_X3_queuedAt : Cond.code yX3_queuedAt cX3_queuedAt 2 (some .int) ∈ m_tbl := m_t3 (List.mem_of_getElem? (i := 160) rfl) rfl
theorem wl_X3_231 : Cond.methodLink RX3 231 yX4_at ∈ m_tbl := m_t3 (List.mem_of_getElem? (i := 161) rfl) rfl
theorem wi_X4_at : Cond.instanceMethod yX4_at ∈ m_tbl := m_t3 (List.mem_of_getElem? (i := 162) rfl) rfl
theorem ws_X4_at : Cond.selects RX4 yX4_at yX4_at ∈ m_tbl := m_t3 (List.mem_of_getElem? (i := 163) rfl) rfl
theorem wc_X4_at : Cond.code yX4_at cX4_at 2 (some .int) ∈ m_tbl := m_t3 (List.mem_of_getElem? (i := 164) rfl) rfl
theorem wl_X4_30 : Cond.methodLink RX4 30 yX4_size ∈ m_tbl := m_t3 (List.mem_of_getElem? (i := 165) rfl) rfl
theorem wl_L_89 : Cond.methodLink RL 89 yX7_count ∈ m_tbl := m_t3 (List.mem_of_getElem? (i := 166) rfl) rfl
theorem wi_X7_count : Cond.instanceMethod yX7_count ∈ m_tbl := m_t3 (List.mem_of_getElem? (i := 167) rfl) rfl
theorem ws_X7_count : Cond.selects RX7 yX7_count yX7_count ∈ m_tbl := m_t3 (List.mem_of_getElem? (i := 168) rfl) rfl
theorem wc_X7_count : Cond.code yX7_count cX7_count 2 (some .int) ∈ m_tbl := m_t3 (List.mem_of_getElem? (i := 169) rfl) rfl
theorem wl_X7_137 : Cond.methodLink RX7 137 yX2_size ∈ m_tbl := m_t3 (List.mem_of_getElem? (i := 170) rfl) rfl
theorem wi_X2_size : Cond.instanceMethod yX2_size ∈ m_tbl := m_t3 (List.mem_of_getElem? (i := 171) rfl) rfl
theorem ws_X2_size : Cond.selects RX2 yX2_size yX2_size ∈ m_tbl := m_t3 (List.mem_of_getElem? (i := 172) rfl) rfl
theorem wc_X2_size : Cond.code yX2_size cX2_size 1 (some .int) ∈ m_tbl := m_t3 (List.mem_of_getElem? (i := 173) rfl) rfl
theorem wl_X7_140 : Cond.methodLink RX7 140 yX5_length ∈ m_tbl := m_t3 (List.mem_of_getElem? (i := 174) rfl) rfl
theorem wi_X5_length : Cond.instanceMethod yX5_length ∈ m_tbl := m_t3 (List.mem_of_getElem? (i := 175) rfl) rfl
theorem ws_X5_length : Cond.selects RX5 yX5_length yX5_length ∈ m_tbl := m_t3 (List.mem_of_getElem? (i := 176) rfl) rfl
theorem wc_X5_length : Cond.code yX5_length cX5_length 1 (some .int) ∈ m_tbl := m_t3 (List.mem_of_getElem? (i := 177) rfl) rfl
theorem wl_X7_143 : Cond.methodLink RX7 143 yX3_aboutNow ∈ m_tbl := m_t3 (List.mem_of_getElem? (i := 178) rfl) rfl
theorem wi_X3_aboutNow : Cond.instanceMethod yX3_aboutNow ∈ m_tbl := m_t3 (List.mem_of_getElem? (i := 179) rfl) rfl
theorem ws_X3_aboutNow : Cond.selects RX3 yX3_aboutNow yX3_aboutNow ∈ m_tbl := m_t3 (List.mem_of_getElem? (i := 180) rfl) rfl
theorem wc_X3_aboutNow : Cond.code yX3_aboutNow cX3_aboutNow 2 (some .int) ∈ m_tbl := m_t3 (List.mem_of_getElem? (i := 181) rfl) rfl
theorem wl_X3_99 : Cond.methodLink RX3 99 yX3_busyClients ∈ m_tbl := m_t3 (List.mem_of_getElem? (i := 182) rfl) rfl
theorem wi_X3_busyClients : Cond.instanceMethod yX3_busyClients ∈ m_tbl := m_t3 (List.mem_of_getElem? (i := 184) rfl) rfl
theorem wc_X3_busyClients : Cond.code yX3_busyClients cX3_busyClients 3 (some .int) ∈ m_tbl := m_t3 (List.mem_of_getElem? (i := 185) rfl) rfl
theorem wl_L_93 : Cond.methodLink RL 93 yX7_total ∈ m_tbl := m_t3 (List.mem_of_getElem? (i := 186) rfl) rfl
theorem wi_X7_total : Cond.instanceMethod yX7_total ∈ m_tbl := m_t3 (List.mem_of_getElem? (i := 187) rfl) rfl
theorem ws_X7_total : Cond.selects RX7 yX7_total yX7_total ∈ m_tbl := m_t3 (List.mem_of_getElem? (i := 188) rfl) rfl
theorem wc_X7_total : Cond.code yX7_total cX7_total 2 (some .int) ∈ m_tbl := m_t3 (List.mem_of_getElem? (i := 189) rfl) rfl
theorem wl_X7_146 : Cond.methodLink RX7 146 yX3_totalOf ∈ m_tbl := m_t3 (List.mem_of_getElem? (i := 190) rfl) rfl
theorem wi_X3_totalOf : Cond.instanceMethod yX3_totalOf ∈ m_tbl := m_t3 (List.mem_of_getElem? (i := 191) rfl) rfl
theorem ws_X3_totalOf : Cond.selects RX3 yX3_totalOf yX3_totalOf ∈ m_tbl := m_t3 (List.mem_of_getElem? (i := 192) rfl) rfl
theorem wc_X3_totalOf : Cond.code yX3_totalOf cX3_totalOf 2 (some .int) ∈ m_tbl := m_t3 (List.mem_of_getElem? (i := 193) rfl) rfl
theorem wl_L_97 : Cond.methodLink RL 97 yX7_answeredIn ∈ m_tbl := m_t3 (List.mem_of_getElem? (i := 194) rfl) rfl
theorem wi_X7_answeredIn : Cond.instanceMethod yX7_answeredIn ∈ m_tbl := m_t3 (List.mem_of_getElem? (i := 195) rfl) rfl
theorem ws_X7_answeredIn : Cond.selects RX7 yX7_answeredIn yX7_answeredIn ∈ m_tbl := m_t3 (List.mem_of_getElem? (i := 196) rfl) rfl
theorem wc_X7_answeredIn : Cond.code yX7_answeredIn cX7_answeredIn 2 (some .int) ∈ m_tbl := m_t3 (List.mem_of_getElem? (i := 197) rfl) rfl
theorem wl_X7_149 : Cond.methodLink RX7 149 yX3_ticksToAnswer ∈ m_tbl := m_t3 (List.mem_of_getElem? (i := 198) rfl) rfl
theorem wi_X3_ticksToAnswer : Cond.instanceMethod yX3_ticksToAnswer ∈ m_tbl := m_t3 (List.mem_of_getElem? (i := 199) rfl) rfl
theorem ws_X3_ticksToAnswer : Cond.selects RX3 yX3_ticksToAnswer yX3_ticksToAnswer ∈ m_tbl := m_t3 (List.mem_of_getElem? (i := 200) rfl) rfl
theorem wc_X3_ticksToAnswer : Cond.code yX3_ticksToAnswer cX3_ticksToAnswer 3 (some .int) ∈ m_tbl := m_t3 (List.mem_of_getElem? (i := 201) rfl) rfl
theorem wl_X3_234 : Cond.methodLink RX3 234 yX3_ticksToWritten ∈ m_tbl := m_t3 (List.mem_of_getElem? (i := 202) rfl) rfl
theorem wi_X3_ticksToWritten : Cond.instanceMethod yX3_ticksToWritten ∈ m_tbl := m_t3 (List.mem_of_getElem? (i := 204) rfl) rfl
theorem wc_X3_ticksToWritten : Cond.code yX3_ticksToWritten cX3_ticksToWritten 4 (some .int) ∈ m_tbl := m_t3 (List.mem_of_getElem? (i := 205) rfl) rfl
theorem wl_X3_237 : Cond.methodLink RX3 237 yX3_ticksToEndOfWriting ∈ m_tbl := m_t3 (List.mem_of_getElem? (i := 206) rfl) rfl
theorem wi_X3_ticksToEndOfWriting : Cond.instanceMethod yX3_ticksToEndOfWriting ∈ m_tbl := m_t3 (List.mem_of_getElem? (i := 208) rfl) rfl
theorem wc_X3_ticksToEndOfWriting : Cond.code yX3_ticksToEndOfWriting cX3_ticksToEndOfWriting 1 (some .int) ∈ m_tbl := m_t3 (List.mem_of_getElem? (i := 209) rfl) rfl
theorem wl_L_101 : Cond.methodLink RL 101 yX7_ifSubmitted ∈ m_tbl := m_t3 (List.mem_of_getElem? (i := 210) rfl) rfl
theorem wi_X7_ifSubmitted : Cond.instanceMethod yX7_ifSubmitted ∈ m_tbl := m_t3 (List.mem_of_getElem? (i := 211) rfl) rfl
theorem ws_X7_ifSubmitted : Cond.selects RX7 yX7_ifSubmitted yX7_ifSubmitted ∈ m_tbl := m_t3 (List.mem_of_getElem? (i := 212) rfl) rfl
theorem wc_X7_ifSubmitted : Cond.code yX7_ifSubmitted cX7_ifSubmitted 4 (some .int) ∈ m_tbl := m_t3 (List.mem_of_getElem? (i := 213) rfl) rfl
theorem wl_X7_152 : Cond.methodLink RX7 152 yX3_refusalOfAnyEntry ∈ m_tbl := m_t3 (List.mem_of_getElem? (i := 214) rfl) rfl
theorem wi_X3_refusalOfAnyEntry : Cond.instanceMethod yX3_refusalOfAnyEntry ∈ m_tbl := m_t3 (List.mem_of_getElem? (i := 215) rfl) rfl
theorem ws_X3_refusalOfAnyEntry : Cond.selects RX3 yX3_refusalOfAnyEntry yX3_refusalOfAnyEntry ∈ m_tbl := m_t3 (List.mem_of_getElem? (i := 216) rfl) rfl
theorem wc_X3_refusalOfAnyEntry : Cond.code yX3_refusalOfAnyEntry cX3_refusalOfAnyEntry 2 (some .int) ∈ m_tbl := m_t3 (List.mem_of_getElem? (i := 217) rfl) rfl
theorem wl_X7_155 : Cond.methodLink RX7 155 yX3_ticksIfEntered ∈ m_tbl := m_t3 (List.mem_of_getElem? (i := 218) rfl) rfl
theorem wi_X3_ticksIfEntered : Cond.instanceMethod yX3_ticksIfEntered ∈ m_tbl := m_t3 (List.mem_of_getElem? (i := 219) rfl) rfl
theorem ws_X3_ticksIfEntered : Cond.selects RX3 yX3_ticksIfEntered yX3_ticksIfEntered ∈ m_tbl := m_t3 (List.mem_of_getElem? (i := 220) rfl) rfl
theorem wc_X3_ticksIfEntered : Cond.code yX3_ticksIfEntered cX3_ticksIfEntered 6 (some .int) ∈ m_tbl := m_t3 (List.mem_of_getElem? (i := 221) rfl) rfl
theorem wl_X3_240 : Cond.methodLink RX3 240 yX3_ticksToFreeDisk ∈ m_tbl := m_t3 (List.mem_of_getElem? (i := 222) rfl) rfl
theorem wi_X3_ticksToFreeDisk : Cond.instanceMethod yX3_ticksToFreeDisk ∈ m_tbl := m_t3 (List.mem_of_getElem? (i := 224) rfl) rfl
theorem wc_X3_ticksToFreeDisk : Cond.code yX3_ticksToFreeDisk cX3_ticksToFreeDisk 3 (some .int) ∈ m_tbl := m_t3 (List.mem_of_getElem? (i := 225) rfl) rfl
theorem wl_L_106 : Cond.methodLink RL 106 yX7_idleIn ∈ m_tbl := m_t3 (List.mem_of_getElem? (i := 226) rfl) rfl
theorem wi_X7_idleIn : Cond.instanceMethod yX7_idleIn ∈ m_tbl := m_t3 (List.mem_of_getElem? (i := 227) rfl) rfl
theorem ws_X7_idleIn : Cond.selects RX7 yX7_idleIn yX7_idleIn ∈ m_tbl := m_t3 (List.mem_of_getElem? (i := 228) rfl) rfl
theorem wc_X7_idleIn : Cond.code yX7_idleIn cX7_idleIn 1 (some .int) ∈ m_tbl := m_t3 (List.mem_of_getElem? (i := 229) rfl) rfl
theorem wl_X7_159 : Cond.methodLink RX7 159 yX3_ticksToIdle ∈ m_tbl := m_t3 (List.mem_of_getElem? (i := 230) rfl) rfl
theorem wi_X3_ticksToIdle : Cond.instanceMethod yX3_ticksToIdle ∈ m_tbl := m_t3 (List.mem_of_getElem? (i := 231) rfl) rfl
theorem ws_X3_ticksToIdle : Cond.selects RX3 yX3_ticksToIdle yX3_ticksToIdle ∈ m_tbl := m_t3 (List.mem_of_getElem? (i := 232) rfl) rfl
theorem wc_X3_ticksToIdle : Cond.code yX3_ticksToIdle cX3_ticksToIdle 3 (some .int) ∈ m_tbl := m_t3 (List.mem_of_getElem? (i := 233) rfl) rfl
theorem wl_X3_243 : Cond.methodLink RX3 243 yX3_ticksToAnswer ∈ m_tbl := m_t3 (List.mem_of_getElem? (i := 234) rfl) rfl
theorem wl_L_110 : Cond.methodLink RL 110 yX7_mean ∈ m_tbl := m_t3 (List.mem_of_getElem? (i := 235) rfl) rfl
theorem wi_X7_mean : Cond.instanceMethod yX7_mean ∈ m_tbl := m_t3 (List.mem_of_getElem? (i := 236) rfl) rfl
theorem ws_X7_mean : Cond.selects RX7 yX7_mean yX7_mean ∈ m_tbl := m_t3 (List.mem_of_getElem? (i := 237) rfl) rfl
theorem wc_X7_mean : Cond.code yX7_mean cX7_mean 1 (some .double) ∈ m_tbl := m_t3 (List.mem_of_getElem? (i := 238) rfl) rfl
theorem wl_X7_162 : Cond.methodLink RX7 162 yX3_meanTicks ∈ m_tbl := m_t3 (List.mem_of_getElem? (i := 239) rfl) rfl
theorem wi_X3_meanTicks : Cond.instanceMethod yX3_meanTicks ∈ m_tbl := m_t4 (List.mem_of_getElem? (i := 0) rfl) rfl
theorem ws_X3_meanTicks : Cond.selects RX3 yX3_meanTicks yX3_meanTicks ∈ m_tbl := m_t4 (List.mem_of_getElem? (i := 1) rfl) rfl
theorem wc_X3_meanTicks : Cond.code yX3_meanTicks cX3_meanTicks 2 (some .double) ∈ m_tbl := m_t4 (List.mem_of_getElem? (i := 2) rfl) rfl
theorem wk_L_10 : Cond.classLink RL 10 RX8 ∈ m_tbl := m_t4 (List.mem_of_getElem? (i := 3) rfl) rfl
theorem wb_X8 : Cond.instantiable RX8 13 ∈ m_tbl := m_t4 (List.mem_of_getElem? (i := 4) rfl) rfl
theorem wl_L_12 : Cond.methodLink RL 12 yX8_init ∈ m_tbl := m_t4 (List.mem_of_getElem? (i := 5) rfl) rfl
theorem wi_X8_init : Cond.instanceMethod yX8_init ∈ m_tbl := m_t4 (List.mem_of_getElem? (i := 6) rfl) rfl
theorem wc_X8_init : Cond.code yX8_init cX8_init 1 none ∈ m_tbl := m_t4 (List.mem_of_getElem? (i := 7) rfl) rfl
theorem wl_X8_1 : Cond.methodLink RX8 1 objectInit ∈ m_tbl := m_t4 (List.mem_of_getElem? (i := 8) rfl) rfl
theorem wf_X8_7 : Cond.fieldLink RX8 7 "GroupCommitsModel" "state" "[I" ∈ m_tbl := m_t4 (List.mem_of_getElem? (i := 9) rfl) rfl
theorem wf_X8_13 : Cond.fieldLink RX8 13 "GroupCommitsModel" "spare" "[I" ∈ m_tbl := m_t4 (List.mem_of_getElem? (i := 10) rfl) rfl
theorem wf_X8_16 : Cond.fieldLink RX8 16 "GroupCommitsModel" "history" "[I" ∈ m_tbl := m_t4 (List.mem_of_getElem? (i := 11) rfl) rfl
theorem wf_X8_29 : Cond.fieldLink RX8 29 "GroupCommitsModel" "states" "I" ∈ m_tbl := m_t4 (List.mem_of_getElem? (i := 12) rfl) rfl
theorem wf_X8_19 : Cond.fieldLink RX8 19 "GroupCommitsModel" "snapshot" "[I" ∈ m_tbl := m_t4 (List.mem_of_getElem? (i := 13) rfl) rfl
theorem wf_X8_33 : Cond.fieldLink RX8 33 "GroupCommitsModel" "hasSnapshot" "Z" ∈ m_tbl := m_t4 (List.mem_of_getElem? (i := 14) rfl) rfl
theorem wf_X8_22 : Cond.fieldLink RX8 22 "GroupCommitsModel" "text" "[I" ∈ m_tbl := m_t4 (List.mem_of_getElem? (i := 15) rfl) rfl
theorem wf_X8_134 : Cond.fieldLink RX8 134 "GroupCommitsModel" "length" "I" ∈ m_tbl := m_t4 (List.mem_of_getElem? (i := 16) rfl) rfl
theorem wf_X8_137 : Cond.fieldLink RX8 137 "GroupCommitsModel" "at" "I" ∈ m_tbl := m_t4 (List.mem_of_getElem? (i := 17) rfl) rfl
theorem wf_X8_158 : Cond.fieldLink RX8 158 "GroupCommitsModel" "sign" "I" ∈ m_tbl := m_t4 (List.mem_of_getElem? (i := 18) rfl) rfl
theorem wf_X8_143 : Cond.fieldLink RX8 143 "GroupCommitsModel" "first" "I" ∈ m_tbl := m_t4 (List.mem_of_getElem? (i := 19) rfl) rfl
theorem wf_X8_152 : Cond.fieldLink RX8 152 "GroupCommitsModel" "second" "I" ∈ m_tbl := m_t4 (List.mem_of_getElem? (i := 20) rfl) rfl
theorem wf_X8_155 : Cond.fieldLink RX8 155 "GroupCommitsModel" "isPressing" "Z" ∈ m_tbl := m_t4 (List.mem_of_getElem? (i := 21) rfl) rfl
theorem wl_L_60 : Cond.methodLink RL 60 yX8_undo ∈ m_tbl := m_t4 (List.mem_of_getElem? (i := 49) rfl) rfl
theorem wi_X8_undo : Cond.instanceMethod yX8_undo ∈ m_tbl := m_t4 (List.mem_of_getElem? (i := 50) rfl) rfl
theorem ws_X8_undo : Cond.selects RX8 yX8_undo yX8_undo ∈ m_tbl := m_t4 (List.mem_of_getElem? (i := 51) rfl) rfl
theorem wc_X8_undo : Cond.code yX8_undo cX8_undo 2 (some .int) ∈ m_tbl := m_t4 (List.mem_of_getElem? (i := 52) rfl) rfl
theorem wl_L_64 : Cond.methodLink RL 64 yX8_save ∈ m_tbl := m_t4 (List.mem_of_getElem? (i := 53) rfl) rfl
theorem wi_X8_save : Cond.instanceMethod yX8_save ∈ m_tbl := m_t4 (List.mem_of_getElem? (i := 54) rfl) rfl
theorem ws_X8_save : Cond.selects RX8 yX8_save yX8_save ∈ m_tbl := m_t4 (List.mem_of_getElem? (i := 55) rfl) rfl
theorem wc_X8_save : Cond.code yX8_save cX8_save 2 (some .int) ∈ m_tbl := m_t4 (List.mem_of_getElem? (i := 56) rfl) rfl
theorem wl_L_68 : Cond.methodLink RL 68 yX8_restore ∈ m_tbl := m_t4 (List.mem_of_getElem? (i := 57) rfl) rfl
theorem wi_X8_restore : Cond.instanceMethod yX8_restore ∈ m_tbl := m_t4 (List.mem_of_getElem? (i := 58) rfl) rfl
theorem ws_X8_restore : Cond.selects RX8 yX8_restore yX8_restore ∈ m_tbl := m_t4 (List.mem_of_getElem? (i := 59) rfl) rfl
theorem wc_X8_restore : Cond.code yX8_restore cX8_restore 2 (some .int) ∈ m_tbl := m_t4 (List.mem_of_getElem? (i := 60) rfl) rfl
theorem wl_X8_37 : Cond.methodLink RX8 37 yX8_record ∈ m_tbl := m_t4 (List.mem_of_getElem? (i := 61) rfl) rfl
theorem wi_X8_record : Cond.instanceMethod yX8_record ∈ m_tbl := m_t4 (List.mem_of_getElem? (i := 63) rfl) rfl
theorem wc_X8_record : Cond.code yX8_record cX8_record 2 none ∈ m_tbl := m_t4 (List.mem_of_getElem? (i := 64) rfl) rfl
theorem wl_L_17 : Cond.methodLink RL 17 yX8_submit ∈ m_tbl := m_t4 (List.mem_of_getElem? (i := 65) rfl) rfl
theorem wi_X8_submit : Cond.instanceMethod yX8_submit ∈ m_tbl := m_t4 (List.mem_of_getElem? (i := 66) rfl) rfl
theorem ws_X8_submit : Cond.selects RX8 yX8_submit yX8_submit ∈ m_tbl := m_t4 (List.mem_of_getElem? (i := 67) rfl) rfl
theorem wc_X8_submit : Cond.code yX8_submit cX8_submit 5 (some .int) ∈ m_tbl := m_t4 (List.mem_of_getElem? (i := 68) rfl) rfl
theorem wl_X8_106 : Cond.methodLink RX8 106 yX8_whyNotSubmitted ∈ m_tbl := m_t4 (List.mem_of_getElem? (i := 69) rfl) rfl
theorem wi_X8_whyNotSubmitted : Cond.instanceMethod yX8_whyNotSubmitted ∈ m_tbl := m_t4 (List.mem_of_getElem? (i := 71) rfl) rfl
theorem wc_X8_whyNotSubmitted : Cond.code yX8_whyNotSubmitted cX8_whyNotSubmitted 3 (some .int) ∈ m_tbl := m_t4 (List.mem_of_getElem? (i := 72) rfl) rfl
theorem wl_X8_92 : Cond.methodLink RX8 92 yX8_isClient ∈ m_tbl := m_t4 (List.mem_of_getElem? (i := 73) rfl) rfl
theorem wst_X8_isClient : Cond.static yX8_isClient ∈ m_tbl := m_t4 (List.mem_of_getElem? (i := 74) rfl) rfl
theorem wc_X8_isClient : Cond.code yX8_isClient cX8_isClient 1 (some .boolean) ∈ m_tbl := m_t4 (List.mem_of_getElem? (i := 75) rfl) rfl
theorem wl_X8_25 : Cond.methodLink RX8 25 yX8_within ∈ m_tbl := m_t4 (List.mem_of_getElem? (i := 76) rfl) rfl
theorem wst_X8_within : Cond.static yX8_within ∈ m_tbl := m_t4 (List.mem_of_getElem? (i := 77) rfl) rfl
theorem wc_X8_within : Cond.code yX8_within cX8_within 3 (some .boolean) ∈ m_tbl := m_t4 (List.mem_of_getElem? (i := 78) rfl) rfl
theorem wl_X8_96 : Cond.methodLink RX8 96 yX8_openOf ∈ m_tbl := m_t4 (List.mem_of_getElem? (i := 79) rfl) rfl
theorem wi_X8_openOf : Cond.instanceMethod yX8_openOf ∈ m_tbl := m_t4 (List.mem_of_getElem? (i := 81) rfl) rfl
theorem wc_X8_openOf : Cond.code yX8_openOf cX8_openOf 3 (some .int) ∈ m_tbl := m_t4 (List.mem_of_getElem? (i := 82) rfl) rfl
theorem wl_X8_40 : Cond.methodLink RX8 40 yX8_of ∈ m_tbl := m_t4 (List.mem_of_getElem? (i := 83) rfl) rfl
theorem wi_X8_of : Cond.instanceMethod yX8_of ∈ m_tbl := m_t4 (List.mem_of_getElem? (i := 85) rfl) rfl
theorem wc_X8_of : Cond.code yX8_of cX8_of 3 (some .int) ∈ m_tbl := m_t4 (List.mem_of_getElem? (i := 86) rfl) rfl
theorem wl_X8_109 : Cond.methodLink RX8 109 yX8_doesSubmit ∈ m_tbl := m_t4 (List.mem_of_getElem? (i := 87) rfl) rfl
theorem wi_X8_doesSubmit : Cond.instanceMethod yX8_doesSubmit ∈ m_tbl := m_t4 (List.mem_of_getElem? (i := 89) rfl) rfl
theorem wc_X8_doesSubmit : Cond.code yX8_doesSubmit cX8_doesSubmit 7 (some .int) ∈ m_tbl := m_t4 (List.mem_of_getElem? (i := 90) rfl) rfl
theorem wl_X8_99 : Cond.methodLink RX8 99 yX8_begin ∈ m_tbl := m_t4 (List.mem_of_getElem? (i := 91) rfl) rfl
theorem wi_X8_begin : Cond.instanceMethod yX8_begin ∈ m_tbl := m_t4 (List.mem_of_getElem? (i := 93) rfl) rfl
theorem wc_X8_begin : Cond.code yX8_begin cX8_begin 2 (some .int) ∈ m_tbl := m_t4 (List.mem_of_getElem? (i := 94) rfl) rfl
theorem wl_X8_59 : Cond.methodLink RX8 59 yX8_setGroup ∈ m_tbl := m_t4 (List.mem_of_getElem? (i := 95) rfl) rfl
theorem wi_X8_setGroup : Cond.instanceMethod yX8_setGroup ∈ m_tbl := m_t4 (List.mem_of_getElem? (i := 97) rfl) rfl
theorem wc_X8_setGroup : Cond.code yX8_setGroup cX8_setGroup 4 none ∈ m_tbl := m_t4 (List.mem_of_getElem? (i := 98) rfl) rfl
theorem wl_X8_48 : Cond.methodLink RX8 48 yX8_setOf ∈ m_tbl := m_t4 (List.mem_of_getElem? (i := 99) rfl) rfl
theorem wi_X8_setOf : Cond.instanceMethod yX8_setOf ∈ m_tbl := m_t4 (List.mem_of_getElem? (i := 101) rfl) rfl
theorem wc_X8_setOf : Cond.code yX8_setOf cX8_setOf 4 none ∈ m_tbl := m_t4 (List.mem_of_getElem? (i := 102) rfl) rfl
theorem wl_X8_62 : Cond.methodLink RX8 62 yX8_recordsOf ∈ m_tbl := m_t4 (List.mem_of_getElem? (i := 103) rfl) rfl
theorem wi_X8_recordsOf : Cond.instanceMethod yX8_recordsOf ∈ m_tbl := m_t4 (List.mem_of_getElem? (i := 105) rfl) rfl
theorem wc_X8_recordsOf : Cond.code yX8_recordsOf cX8_recordsOf 4 (some .int) ∈ m_tbl := m_t4 (List.mem_of_getElem? (i := 106) rfl) rfl
theorem wl_X8_44 : Cond.methodLink RX8 44 yX8_isIn ∈ m_tbl := m_t4 (List.mem_of_getElem? (i := 107) rfl) rfl
theorem wi_X8_isIn : Cond.instanceMethod yX8_isIn ∈ m_tbl := m_t4 (List.mem_of_getElem? (i := 109) rfl) rfl
theorem wc_X8_isIn : Cond.code yX8_isIn cX8_isIn 3 (some .boolean) ∈ m_tbl := m_t4 (List.mem_of_getElem? (i := 110) rfl) rfl
theorem wl_X8_77 : Cond.methodLink RX8 77 yX8_isLate ∈ m_tbl := m_t4 (List.mem_of_getElem? (i := 111) rfl) rfl
theorem wi_X8_isLate : Cond.instanceMethod yX8_isLate ∈ m_tbl := m_t4 (List.mem_of_getElem? (i := 113) rfl) rfl
theorem wc_X8_isLate : Cond.code yX8_isLate cX8_isLate 1 (some .boolean) ∈ m_tbl := m_t4 (List.mem_of_getElem? (i := 114) rfl) rfl
theorem wl_X8_52 : Cond.methodLink RX8 52 yX8_ofGroup ∈ m_tbl := m_t4 (List.mem_of_getElem? (i := 115) rfl) rfl
theorem wi_X8_ofGroup : Cond.instanceMethod yX8_ofGroup ∈ m_tbl := m_t4 (List.mem_of_getElem? (i := 117) rfl) rfl
theorem wc_X8_ofGroup : Cond.code yX8_ofGroup cX8_ofGroup 3 (some .int) ∈ m_tbl := m_t4 (List.mem_of_getElem? (i := 118) rfl) rfl
theorem wl_X8_81 : Cond.methodLink RX8 81 yX8_close ∈ m_tbl := m_t4 (List.mem_of_getElem? (i := 119) rfl) rfl
theorem wi_X8_close : Cond.instanceMethod yX8_close ∈ m_tbl := m_t4 (List.mem_of_getElem? (i := 121) rfl) rfl
theorem wc_X8_close : Cond.code yX8_close cX8_close 5 none ∈ m_tbl := m_t4 (List.mem_of_getElem? (i := 122) rfl) rfl
theorem wl_X8_65 : Cond.methodLink RX8 65 yX8_turnMembers ∈ m_tbl := m_t4 (List.mem_of_getElem? (i := 123) rfl) rfl
theorem wi_X8_turnMembers : Cond.instanceMethod yX8_turnMembers ∈ m_tbl := m_t4 (List.mem_of_getElem? (i := 125) rfl) rfl
theorem wc_X8_turnMembers : Cond.code yX8_turnMembers cX8_turnMembers 5 (some .int) ∈ m_tbl := m_t4 (List.mem_of_getElem? (i := 126) rfl) rfl
theorem wl_X8_68 : Cond.methodLink RX8 68 yX8_members ∈ m_tbl := m_t4 (List.mem_of_getElem? (i := 127) rfl) rfl
theorem wi_X8_members : Cond.instanceMethod yX8_members ∈ m_tbl := m_t4 (List.mem_of_getElem? (i := 129) rfl) rfl
theorem wc_X8_members : Cond.code yX8_members cX8_members 4 (some .int) ∈ m_tbl := m_t4 (List.mem_of_getElem? (i := 130) rfl) rfl
theorem wl_X8_71 : Cond.methodLink RX8 71 yX8_goOn ∈ m_tbl := m_t4 (List.mem_of_getElem? (i := 131) rfl) rfl
theorem wi_X8_goOn : Cond.instanceMethod yX8_goOn ∈ m_tbl := m_t4 (List.mem_of_getElem? (i := 133) rfl) rfl
theorem wc_X8_goOn : Cond.code yX8_goOn cX8_goOn 2 none ∈ m_tbl := m_t4 (List.mem_of_getElem? (i := 134) rfl) rfl
theorem wl_X8_55 : Cond.methodLink RX8 55 yX8_queuedAt ∈ m_tbl := m_t4 (List.mem_of_getElem? (i := 135) rfl) rfl
theorem wi_X8_queuedAt : Cond.instanceMethod yX8_queuedAt ∈ m_tbl := m_t4 (List.mem_of_getElem? (i := 137) rfl) rfl
theorem wc_X8_queuedAt : Cond.code yX8_queuedAt cX8_queuedAt 4 (some .int) ∈ m_tbl := m_t4 (List.mem_of_getElem? (i := 138) rfl) rfl
theorem wl_L_22 : Cond.methodLink RL 22 yX8_fail ∈ m_tbl := m_t4 (List.mem_of_getElem? (i := 139) rfl) rfl
theorem wi_X8_fail : Cond.instanceMethod yX8_fail ∈ m_tbl := m_t4 (List.mem_of_getElem? (i := 140) rfl) rfl
theorem ws_X8_fail : Cond.selects RX8 yX8_fail yX8_fail ∈ m_tbl := m_t4 (List.mem_of_getElem? (i := 141) rfl) rfl
theorem wc_X8_fail : Cond.code yX8_fail cX8_fail 2 (some .int) ∈ m_tbl := m_t4 (List.mem_of_getElem? (i := 142) rfl) rfl
theorem wl_X8_113 : Cond.methodLink RX8 113 yX8_doesFail ∈ m_tbl := m_t4 (List.mem_of_getElem? (i := 143) rfl) rfl
theorem wi_X8_doesFail : Cond.instanceMethod yX8_doesFail ∈ m_tbl := m_t4 (List.mem_of_getElem? (i := 145) rfl) rfl
theorem wc_X8_doesFail : Cond.code yX8_doesFail cX8_doesFail 3 (some .int) ∈ m_tbl := m_t4 (List.mem_of_getElem? (i := 146) rfl) rfl
theorem wl_X8_102 : Cond.methodLink RX8 102 yX8_takeOut ∈ m_tbl := m_t4 (List.mem_of_getElem? (i := 147) rfl) rfl
theorem wi_X8_takeOut : Cond.instanceMethod yX8_takeOut ∈ m_tbl := m_t4 (List.mem_of_getElem? (i := 149) rfl) rfl
theorem wc_X8_takeOut : Cond.code yX8_takeOut cX8_takeOut 5 none ∈ m_tbl := m_t4 (List.mem_of_getElem? (i := 150) rfl) rfl
theorem wl_X8_89 : Cond.methodLink RX8 89 yX8_memberAt ∈ m_tbl := m_t4 (List.mem_of_getElem? (i := 151) rfl) rfl
theorem wi_X8_memberAt : Cond.instanceMethod yX8_memberAt ∈ m_tbl := m_t4 (List.mem_of_getElem? (i := 153) rfl) rfl
theorem wc_X8_memberAt : Cond.code yX8_memberAt cX8_memberAt 5 (some .int) ∈ m_tbl := m_t4 (List.mem_of_getElem? (i := 154) rfl) rfl
theorem wl_L_26 : Cond.methodLink RL 26 yX8_withdraw ∈ m_tbl := m_t4 (List.mem_of_getElem? (i := 155) rfl) rfl
theorem wi_X8_withdraw : Cond.instanceMethod yX8_withdraw ∈ m_tbl := m_t4 (List.mem_of_getElem? (i := 156) rfl) rfl
theorem ws_X8_withdraw : Cond.selects RX8 yX8_withdraw yX8_withdraw ∈ m_tbl := m_t4 (List.mem_of_getElem? (i := 157) rfl) rfl
theorem wc_X8_withdraw : Cond.code yX8_withdraw cX8_withdraw 2 (some .int) ∈ m_tbl := m_t4 (List.mem_of_getElem? (i := 158) rfl) rfl
theorem wl_X8_116 : Cond.methodLink RX8 116 yX8_canWithdraw ∈ m_tbl := m_t4 (List.mem_of_getElem? (i := 159) rfl) rfl
theorem wi_X8_canWithdraw : Cond.instanceMethod yX8_canWithdraw ∈ m_tbl := m_t4 (List.mem_of_getElem? (i := 161) rfl) rfl
theorem wc_X8_canWithdraw : Cond.code yX8_canWithdraw cX8_canWithdraw 3 (some .boolean) ∈ m_tbl := m_t4 (List.mem_of_getElem? (i := 162) rfl) rfl
theorem wl_X8_119 : Cond.methodLink RX8 119 yX8_doesWithdraw ∈ m_tbl := m_t4 (List.mem_of_getElem? (i := 163) rfl) rfl
theorem wi_X8_doesWithdraw : Cond.instanceMethod yX8_doesWithdraw ∈ m_tbl := m_t4 (List.mem_of_getElem? (i := 165) rfl) rfl
theorem wc_X8_doesWithdraw : Cond.code yX8_doesWithdraw cX8_doesWithdraw 3 (some .int) ∈ m_tbl := m_t4 (List.mem_of_getElem? (i := 166) rfl) rfl
theorem wl_L_31 : Cond.methodLink RL 31 yX8_crash ∈ m_tbl := m_t4 (List.mem_of_getElem? (i := 167) rfl) rfl
theorem wi_X8_crash : Cond.instanceMethod yX8_crash ∈ m_tbl := m_t4 (List.mem_of_getElem? (i := 168) rfl) rfl
theorem ws_X8_crash : Cond.selects RX8 yX8_crash yX8_crash ∈ m_tbl := m_t4 (List.mem_of_getElem? (i := 169) rfl) rfl
theorem wc_X8_crash : Cond.code yX8_crash cX8_crash 1 (some .int) ∈ m_tbl := m_t4 (List.mem_of_getElem? (i := 170) rfl) rfl
theorem wl_X8_122 : Cond.methodLink RX8 122 yX8_doesCrash ∈ m_tbl := m_t4 (List.mem_of_getElem? (i := 171) rfl) rfl
theorem wi_X8_doesCrash : Cond.instanceMethod yX8_doesCrash ∈ m_tbl := m_t4 (List.mem_of_getElem? (i := 173) rfl) rfl
theorem wc_X8_doesCrash : Cond.code yX8_doesCrash cX8_doesCrash 3 (some .int) ∈ m_tbl := m_t4 (List.mem_of_getElem? (i := 174) rfl) rfl
theorem wl_L_35 : Cond.methodLink RL 35 yX8_tick ∈ m_tbl := m_t4 (List.mem_of_getElem? (i := 175) rfl) rfl
theorem wi_X8_tick : Cond.instanceMethod yX8_tick ∈ m_tbl := m_t4 (List.mem_of_getElem? (i := 176) rfl) rfl
theorem ws_X8_tick : Cond.selects RX8 yX8_tick yX8_tick ∈ m_tbl := m_t4 (List.mem_of_getElem? (i := 177) rfl) rfl
theorem wc_X8_tick : Cond.code yX8_tick cX8_tick 2 (some .int) ∈ m_tbl := m_t4 (List.mem_of_getElem? (i := 178) rfl) rfl
theorem wl_X8_125 : Cond.methodLink RX8 125 yX8_ticks ∈ m_tbl := m_t4 (List.mem_of_getElem? (i := 179) rfl) rfl
theorem wi_X8_ticks : Cond.instanceMethod yX8_ticks ∈ m_tbl := m_t4 (List.mem_of_getElem? (i := 181) rfl) rfl
theorem wc_X8_ticks : Cond.code yX8_ticks cX8_ticks 4 (some .int) ∈ m_tbl := m_t4 (List.mem_of_getElem? (i := 182) rfl) rfl
theorem wl_X8_85 : Cond.methodLink RX8 85 yX8_tickOnce ∈ m_tbl := m_t4 (List.mem_of_getElem? (i := 183) rfl) rfl
theorem wi_X8_tickOnce : Cond.instanceMethod yX8_tickOnce ∈ m_tbl := m_t4 (List.mem_of_getElem? (i := 185) rfl) rfl
theorem wc_X8_tickOnce : Cond.code yX8_tickOnce cX8_tickOnce 3 (some .int) ∈ m_tbl := m_t4 (List.mem_of_getElem? (i := 186) rfl) rfl
theorem wl_X8_74 : Cond.methodLink RX8 74 yX8_answerAll ∈ m_tbl := m_t4 (List.mem_of_getElem? (i := 187) rfl) rfl
theorem wi_X8_answerAll : Cond.instanceMethod yX8_answerAll ∈ m_tbl := m_t4 (List.mem_of_getElem? (i := 189) rfl) rfl
theorem wc_X8_answerAll : Cond.code yX8_answerAll cX8_answerAll 4 (some .int) ∈ m_tbl := m_t4 (List.mem_of_getElem? (i := 190) rfl) rfl
theorem wl_L_40 : Cond.methodLink RL 40 yX8_set ∈ m_tbl := m_t4 (List.mem_of_getElem? (i := 191) rfl) rfl
theorem wi_X8_set : Cond.instanceMethod yX8_set ∈ m_tbl := m_t4 (List.mem_of_getElem? (i := 192) rfl) rfl
theorem ws_X8_set : Cond.selects RX8 yX8_set yX8_set ∈ m_tbl := m_t4 (List.mem_of_getElem? (i := 193) rfl) rfl
theorem wc_X8_set : Cond.code yX8_set cX8_set 4 (some .int) ∈ m_tbl := m_t4 (List.mem_of_getElem? (i := 194) rfl) rfl
theorem wl_X8_128 : Cond.methodLink RX8 128 yX8_leastOf ∈ m_tbl := m_t4 (List.mem_of_getElem? (i := 195) rfl) rfl
theorem wst_X8_leastOf : Cond.static yX8_leastOf ∈ m_tbl := m_t4 (List.mem_of_getElem? (i := 196) rfl) rfl
theorem wc_X8_leastOf : Cond.code yX8_leastOf cX8_leastOf 1 (some .int) ∈ m_tbl := m_t4 (List.mem_of_getElem? (i := 197) rfl) rfl
theorem wl_X8_131 : Cond.methodLink RX8 131 yX8_mostOf ∈ m_tbl := m_t4 (List.mem_of_getElem? (i := 198) rfl) rfl
theorem wst_X8_mostOf : Cond.static yX8_mostOf ∈ m_tbl := m_t4 (List.mem_of_getElem? (i := 199) rfl) rfl
theorem wc_X8_mostOf : Cond.code yX8_mostOf cX8_mostOf 1 (some .int) ∈ m_tbl := m_t4 (List.mem_of_getElem? (i := 200) rfl) rfl
theorem wl_L_44 : Cond.methodLink RL 44 yX8_append ∈ m_tbl := m_t4 (List.mem_of_getElem? (i := 201) rfl) rfl
theorem wi_X8_append : Cond.instanceMethod yX8_append ∈ m_tbl := m_t4 (List.mem_of_getElem? (i := 202) rfl) rfl
theorem ws_X8_append : Cond.selects RX8 yX8_append yX8_append ∈ m_tbl := m_t4 (List.mem_of_getElem? (i := 203) rfl) rfl
theorem wc_X8_append : Cond.code yX8_append cX8_append 2 (some .int) ∈ m_tbl := m_t4 (List.mem_of_getElem? (i := 204) rfl) rfl
theorem wl_L_48 : Cond.methodLink RL 48 yX8_clearText ∈ m_tbl := m_t4 (List.mem_of_getElem? (i := 205) rfl) rfl
theorem wi_X8_clearText : Cond.instanceMethod yX8_clearText ∈ m_tbl := m_t4 (List.mem_of_getElem? (i := 206) rfl) rfl
theorem ws_X8_clearText : Cond.selects RX8 yX8_clearText yX8_clearText ∈ m_tbl := m_t4 (List.mem_of_getElem? (i := 207) rfl) rfl
theorem wc_X8_clearText : Cond.code yX8_clearText cX8_clearText 2 (some .int) ∈ m_tbl := m_t4 (List.mem_of_getElem? (i := 208) rfl) rfl
theorem wl_L_52 : Cond.methodLink RL 52 yX8_fault ∈ m_tbl := m_t4 (List.mem_of_getElem? (i := 209) rfl) rfl
theorem wi_X8_fault : Cond.instanceMethod yX8_fault ∈ m_tbl := m_t4 (List.mem_of_getElem? (i := 210) rfl) rfl
theorem ws_X8_fault : Cond.selects RX8 yX8_fault yX8_fault ∈ m_tbl := m_t4 (List.mem_of_getElem? (i := 211) rfl) rfl
theorem wc_X8_fault : Cond.code yX8_fault cX8_fault 1 (some .int) ∈ m_tbl := m_t4 (List.mem_of_getElem? (i := 212) rfl) rfl
theorem wl_X8_167 : Cond.methodLink RX8 167 yX8_findFault ∈ m_tbl := m_t4 (List.mem_of_getElem? (i := 213) rfl) rfl
theorem wi_X8_findFault : Cond.instanceMethod yX8_findFault ∈ m_tbl := m_t4 (List.mem_of_getElem? (i := 215) rfl) rfl
theorem wc_X8_findFault : Cond.code yX8_findFault cX8_findFault 1 (some .int) ∈ m_tbl := m_t4 (List.mem_of_getElem? (i := 216) rfl) rfl
theorem wl_X8_164 : Cond.methodLink RX8 164 yX8_readsOrder ∈ m_tbl := m_t4 (List.mem_of_getElem? (i := 217) rfl) rfl
theorem wi_X8_readsOrder : Cond.instanceMethod yX8_readsOrder ∈ m_tbl := m_t4 (List.mem_of_getElem? (i := 219) rfl) rfl
theorem wc_X8_readsOrder : Cond.code yX8_readsOrder cX8_readsOrder 1 (some .boolean) ∈ m_tbl := m_t4 (List.mem_of_getElem? (i := 220) rfl) rfl
theorem wl_X8_140 : Cond.methodLink RX8 140 yX8_nextCharacter ∈ m_tbl := m_t4 (List.mem_of_getElem? (i := 221) rfl) rfl
theorem wi_X8_nextCharacter : Cond.instanceMethod yX8_nextCharacter ∈ m_tbl := m_t4 (List.mem_of_getElem? (i := 223) rfl) rfl
theorem wc_X8_nextCharacter : Cond.code yX8_nextCharacter cX8_nextCharacter 1 (some .int) ∈ m_tbl := m_t4 (List.mem_of_getElem? (i := 224) rfl) rfl
theorem wl_X8_146 : Cond.methodLink RX8 146 yX8_readsNumber ∈ m_tbl := m_t4 (List.mem_of_getElem? (i := 225) rfl) rfl
theorem wi_X8_readsNumber : Cond.instanceMethod yX8_readsNumber ∈ m_tbl := m_t4 (List.mem_of_getElem? (i := 227) rfl) rfl
theorem wc_X8_readsNumber : Cond.code yX8_readsNumber cX8_readsNumber 4 (some .boolean) ∈ m_tbl := m_t4 (List.mem_of_getElem? (i := 228) rfl) rfl
theorem wl_X8_161 : Cond.methodLink RX8 161 yX8_readsSubmit ∈ m_tbl := m_t4 (List.mem_of_getElem? (i := 229) rfl) rfl
theorem wi_X8_readsSubmit : Cond.instanceMethod yX8_readsSubmit ∈ m_tbl := m_t4 (List.mem_of_getElem? (i := 231) rfl) rfl
theorem wc_X8_readsSubmit : Cond.code yX8_readsSubmit cX8_readsSubmit 1 (some .boolean) ∈ m_tbl := m_t4 (List.mem_of_getElem? (i := 232) rfl) rfl
theorem wl_X8_149 : Cond.methodLink RX8 149 yX8_takes ∈ m_tbl := m_t4 (List.mem_of_getElem? (i := 233) rfl) rfl
theorem wi_X8_takes : Cond.instanceMethod yX8_takes ∈ m_tbl := m_t4 (List.mem_of_getElem? (i := 235) rfl) rfl
theorem wc_X8_takes : Cond.code yX8_takes cX8_takes 3 (some .boolean) ∈ m_tbl := m_t4 (List.mem_of_getElem? (i := 236) rfl) rfl
theorem wl_L_56 : Cond.methodLink RL 56 yX8_run ∈ m_tbl := m_t4 (List.mem_of_getElem? (i := 237) rfl) rfl
theorem wi_X8_run : Cond.instanceMethod yX8_run ∈ m_tbl := m_t4 (List.mem_of_getElem? (i := 238) rfl) rfl
theorem ws_X8_run : Cond.selects RX8 yX8_run yX8_run ∈ m_tbl := m_t4 (List.mem_of_getElem? (i := 239) rfl) rfl
theorem wc_X8_run : Cond.code yX8_run cX8_run 4 (some .int) ∈ m_tbl := m_t5 (List.mem_of_getElem? (i := 0) rfl) rfl
theorem wl_X8_170 : Cond.methodLink RX8 170 yX8_doesOrder ∈ m_tbl := m_t5 (List.mem_of_getElem? (i := 1) rfl) rfl
theorem wi_X8_doesOrder : Cond.instanceMethod yX8_doesOrder ∈ m_tbl := m_t5 (List.mem_of_getElem? (i := 3) rfl) rfl
theorem wc_X8_doesOrder : Cond.code yX8_doesOrder cX8_doesOrder 1 (some .boolean) ∈ m_tbl := m_t5 (List.mem_of_getElem? (i := 4) rfl) rfl
theorem wl_L_72 : Cond.methodLink RL 72 yX8_commit ∈ m_tbl := m_t5 (List.mem_of_getElem? (i := 5) rfl) rfl
theorem wi_X8_commit : Cond.instanceMethod yX8_commit ∈ m_tbl := m_t5 (List.mem_of_getElem? (i := 6) rfl) rfl
theorem ws_X8_commit : Cond.selects RX8 yX8_commit yX8_commit ∈ m_tbl := m_t5 (List.mem_of_getElem? (i := 7) rfl) rfl
theorem wc_X8_commit : Cond.code yX8_commit cX8_commit 3 (some .int) ∈ m_tbl := m_t5 (List.mem_of_getElem? (i := 8) rfl) rfl
theorem wl_L_76 : Cond.methodLink RL 76 yX8_group ∈ m_tbl := m_t5 (List.mem_of_getElem? (i := 9) rfl) rfl
theorem wi_X8_group : Cond.instanceMethod yX8_group ∈ m_tbl := m_t5 (List.mem_of_getElem? (i := 10) rfl) rfl
theorem ws_X8_group : Cond.selects RX8 yX8_group yX8_group ∈ m_tbl := m_t5 (List.mem_of_getElem? (i := 11) rfl) rfl
theorem wc_X8_group : Cond.code yX8_group cX8_group 3 (some .int) ∈ m_tbl := m_t5 (List.mem_of_getElem? (i := 12) rfl) rfl
theorem wl_X8_173 : Cond.methodLink RX8 173 yX8_tellsGroup ∈ m_tbl := m_t5 (List.mem_of_getElem? (i := 13) rfl) rfl
theorem wi_X8_tellsGroup : Cond.instanceMethod yX8_tellsGroup ∈ m_tbl := m_t5 (List.mem_of_getElem? (i := 15) rfl) rfl
theorem wc_X8_tellsGroup : Cond.code yX8_tellsGroup cX8_tellsGroup 4 (some .int) ∈ m_tbl := m_t5 (List.mem_of_getElem? (i := 16) rfl) rfl
theorem wl_L_80 : Cond.methodLink RL 80 yX8_member ∈ m_tbl := m_t5 (List.mem_of_getElem? (i := 17) rfl) rfl
theorem wi_X8_member : Cond.instanceMethod yX8_member ∈ m_tbl := m_t5 (List.mem_of_getElem? (i := 18) rfl) rfl
theorem ws_X8_member : Cond.selects RX8 yX8_member yX8_member ∈ m_tbl := m_t5 (List.mem_of_getElem? (i := 19) rfl) rfl
theorem wc_X8_member : Cond.code yX8_member cX8_member 3 (some .int) ∈ m_tbl := m_t5 (List.mem_of_getElem? (i := 20) rfl) rfl
theorem wl_L_84 : Cond.methodLink RL 84 yX8_open ∈ m_tbl := m_t5 (List.mem_of_getElem? (i := 21) rfl) rfl
theorem wi_X8_open : Cond.instanceMethod yX8_open ∈ m_tbl := m_t5 (List.mem_of_getElem? (i := 22) rfl) rfl
theorem ws_X8_open : Cond.selects RX8 yX8_open yX8_open ∈ m_tbl := m_t5 (List.mem_of_getElem? (i := 23) rfl) rfl
theorem wc_X8_open : Cond.code yX8_open cX8_open 2 (some .int) ∈ m_tbl := m_t5 (List.mem_of_getElem? (i := 24) rfl) rfl
theorem wl_L_88 : Cond.methodLink RL 88 yX8_queued ∈ m_tbl := m_t5 (List.mem_of_getElem? (i := 25) rfl) rfl
theorem wi_X8_queued : Cond.instanceMethod yX8_queued ∈ m_tbl := m_t5 (List.mem_of_getElem? (i := 26) rfl) rfl
theorem ws_X8_queued : Cond.selects RX8 yX8_queued yX8_queued ∈ m_tbl := m_t5 (List.mem_of_getElem? (i := 27) rfl) rfl
theorem wc_X8_queued : Cond.code yX8_queued cX8_queued 2 (some .int) ∈ m_tbl := m_t5 (List.mem_of_getElem? (i := 28) rfl) rfl
theorem wl_L_92 : Cond.methodLink RL 92 yX8_count ∈ m_tbl := m_t5 (List.mem_of_getElem? (i := 29) rfl) rfl
theorem wi_X8_count : Cond.instanceMethod yX8_count ∈ m_tbl := m_t5 (List.mem_of_getElem? (i := 30) rfl) rfl
theorem ws_X8_count : Cond.selects RX8 yX8_count yX8_count ∈ m_tbl := m_t5 (List.mem_of_getElem? (i := 31) rfl) rfl
theorem wc_X8_count : Cond.code yX8_count cX8_count 2 (some .int) ∈ m_tbl := m_t5 (List.mem_of_getElem? (i := 32) rfl) rfl
theorem wl_X8_176 : Cond.methodLink RX8 176 yX8_queuedMany ∈ m_tbl := m_t5 (List.mem_of_getElem? (i := 33) rfl) rfl
theorem wi_X8_queuedMany : Cond.instanceMethod yX8_queuedMany ∈ m_tbl := m_t5 (List.mem_of_getElem? (i := 35) rfl) rfl
theorem wc_X8_queuedMany : Cond.code yX8_queuedMany cX8_queuedMany 3 (some .int) ∈ m_tbl := m_t5 (List.mem_of_getElem? (i := 36) rfl) rfl
theorem wl_X8_179 : Cond.methodLink RX8 179 yX8_busyMany ∈ m_tbl := m_t5 (List.mem_of_getElem? (i := 37) rfl) rfl
theorem wi_X8_busyMany : Cond.instanceMethod yX8_busyMany ∈ m_tbl := m_t5 (List.mem_of_getElem? (i := 39) rfl) rfl
theorem wc_X8_busyMany : Cond.code yX8_busyMany cX8_busyMany 3 (some .int) ∈ m_tbl := m_t5 (List.mem_of_getElem? (i := 40) rfl) rfl
theorem wl_L_96 : Cond.methodLink RL 96 yX8_total ∈ m_tbl := m_t5 (List.mem_of_getElem? (i := 41) rfl) rfl
theorem wi_X8_total : Cond.instanceMethod yX8_total ∈ m_tbl := m_t5 (List.mem_of_getElem? (i := 42) rfl) rfl
theorem ws_X8_total : Cond.selects RX8 yX8_total yX8_total ∈ m_tbl := m_t5 (List.mem_of_getElem? (i := 43) rfl) rfl
theorem wc_X8_total : Cond.code yX8_total cX8_total 2 (some .int) ∈ m_tbl := m_t5 (List.mem_of_getElem? (i := 44) rfl) rfl
theorem wl_L_100 : Cond.methodLink RL 100 yX8_answeredIn ∈ m_tbl := m_t5 (List.mem_of_getElem? (i := 45) rfl) rfl
theorem wi_X8_answeredIn : Cond.instanceMethod yX8_answeredIn ∈ m_tbl := m_t5 (List.mem_of_getElem? (i := 46) rfl) rfl
theorem ws_X8_answeredIn : Cond.selects RX8 yX8_answeredIn yX8_answeredIn ∈ m_tbl := m_t5 (List.mem_of_getElem? (i := 47) rfl) rfl
theorem wc_X8_answeredIn : Cond.code yX8_answeredIn cX8_answeredIn 4 (some .int) ∈ m_tbl := m_t5 (List.mem_of_getElem? (i := 48) rfl) rfl
theorem wl_X8_182 : Cond.methodLink RX8 182 yX8_putAside ∈ m_tbl := m_t5 (List.mem_of_getElem? (i := 49) rfl) rfl
theorem wi_X8_putAside : Cond.instanceMethod yX8_putAside ∈ m_tbl := m_t5 (List.mem_of_getElem? (i := 51) rfl) rfl
theorem wc_X8_putAside : Cond.code yX8_putAside cX8_putAside 2 none ∈ m_tbl := m_t5 (List.mem_of_getElem? (i := 52) rfl) rfl
theorem wl_X8_185 : Cond.methodLink RX8 185 yX8_ticksFor ∈ m_tbl := m_t5 (List.mem_of_getElem? (i := 53) rfl) rfl
theorem wi_X8_ticksFor : Cond.instanceMethod yX8_ticksFor ∈ m_tbl := m_t5 (List.mem_of_getElem? (i := 55) rfl) rfl
theorem wc_X8_ticksFor : Cond.code yX8_ticksFor cX8_ticksFor 3 (some .int) ∈ m_tbl := m_t5 (List.mem_of_getElem? (i := 56) rfl) rfl
theorem wl_X8_188 : Cond.methodLink RX8 188 yX8_takeBack ∈ m_tbl := m_t5 (List.mem_of_getElem? (i := 57) rfl) rfl
theorem wi_X8_takeBack : Cond.instanceMethod yX8_takeBack ∈ m_tbl := m_t5 (List.mem_of_getElem? (i := 59) rfl) rfl
theorem wc_X8_takeBack : Cond.code yX8_takeBack cX8_takeBack 2 none ∈ m_tbl := m_t5 (List.mem_of_getElem? (i := 60) rfl) rfl
theorem wl_L_105 : Cond.methodLink RL 105 yX8_ifSubmitted ∈ m_tbl := m_t5 (List.mem_of_getElem? (i := 61) rfl) rfl
theorem wi_X8_ifSubmitted : Cond.instanceMethod yX8_ifSubmitted ∈ m_tbl := m_t5 (List.mem_of_getElem? (i := 62) rfl) rfl
theorem ws_X8_ifSubmitted : Cond.selects RX8 yX8_ifSubmitted yX8_ifSubmitted ∈ m_tbl := m_t5 (List.mem_of_getElem? (i := 63) rfl) rfl
theorem wc_X8_ifSubmitted : Cond.code yX8_ifSubmitted cX8_ifSubmitted 5 (some .int) ∈ m_tbl := m_t5 (List.mem_of_getElem? (i := 64) rfl) rfl
theorem wl_X8_191 : Cond.methodLink RX8 191 yX8_lowestFree ∈ m_tbl := m_t5 (List.mem_of_getElem? (i := 65) rfl) rfl
theorem wi_X8_lowestFree : Cond.instanceMethod yX8_lowestFree ∈ m_tbl := m_t5 (List.mem_of_getElem? (i := 67) rfl) rfl
theorem wc_X8_lowestFree : Cond.code yX8_lowestFree cX8_lowestFree 2 (some .int) ∈ m_tbl := m_t5 (List.mem_of_getElem? (i := 68) rfl) rfl
theorem wl_L_109 : Cond.methodLink RL 109 yX8_idleIn ∈ m_tbl := m_t5 (List.mem_of_getElem? (i := 69) rfl) rfl
theorem wi_X8_idleIn : Cond.instanceMethod yX8_idleIn ∈ m_tbl := m_t5 (List.mem_of_getElem? (i := 70) rfl) rfl
theorem ws_X8_idleIn : Cond.selects RX8 yX8_idleIn yX8_idleIn ∈ m_tbl := m_t5 (List.mem_of_getElem? (i := 71) rfl) rfl
theorem wc_X8_idleIn : Cond.code yX8_idleIn cX8_idleIn 2 (some .int) ∈ m_tbl := m_t5 (List.mem_of_getElem? (i := 72) rfl) rfl
theorem wl_L_114 : Cond.methodLink RL 114 yX8_mean ∈ m_tbl := m_t5 (List.mem_of_getElem? (i := 73) rfl) rfl
theorem wi_X8_mean : Cond.instanceMethod yX8_mean ∈ m_tbl := m_t5 (List.mem_of_getElem? (i := 74) rfl) rfl
theorem ws_X8_mean : Cond.selects RX8 yX8_mean yX8_mean ∈ m_tbl := m_t5 (List.mem_of_getElem? (i := 75) rfl) rfl
theorem wc_X8_mean : Cond.code yX8_mean cX8_mean 1 (some .double) ∈ m_tbl := m_t5 (List.mem_of_getElem? (i := 76) rfl) rfl
theorem ws_X3_beginGroup : Cond.selects RX3 yX3_beginGroup yX3_beginGroup ∈ m_tbl := List.mem_filter.mpr ⟨List.mem_append_left _ (List.mem_of_getElem? (i := 0) rfl), rfl⟩
theorem ws_X3_setOpenCommit : Cond.selects RX3 yX3_setOpenCommit yX3_setOpenCommit ∈ m_tbl := List.mem_filter.mpr ⟨List.mem_append_left _ (List.mem_of_getElem? (i := 1) rfl), rfl⟩
theorem ws_X3_reasonToClose : Cond.selects RX3 yX3_reasonToClose yX3_reasonToClose ∈ m_tbl := List.mem_filter.mpr ⟨List.mem_append_left _ (List.mem_of_getElem? (i := 2) rfl), rfl⟩
theorem ws_X3_closeGathering : Cond.selects RX3 yX3_closeGathering yX3_closeGathering ∈ m_tbl := List.mem_filter.mpr ⟨List.mem_append_left _ (List.mem_of_getElem? (i := 3) rfl), rfl⟩
theorem ws_X3_learnWait : Cond.selects RX3 yX3_learnWait yX3_learnWait ∈ m_tbl := List.mem_filter.mpr ⟨List.mem_append_left _ (List.mem_of_getElem? (i := 4) rfl), rfl⟩
theorem ws_X3_startWriting : Cond.selects RX3 yX3_startWriting yX3_startWriting ∈ m_tbl := List.mem_filter.mpr ⟨List.mem_append_left _ (List.mem_of_getElem? (i := 5) rfl), rfl⟩
theorem ws_X3_ticksToWrite : Cond.selects RX3 yX3_ticksToWrite yX3_ticksToWrite ∈ m_tbl := List.mem_filter.mpr ⟨List.mem_append_left _ (List.mem_of_getElem? (i := 6) rfl), rfl⟩
theorem ws_X3_leaveGathering : Cond.selects RX3 yX3_leaveGathering yX3_leaveGathering ∈ m_tbl := List.mem_filter.mpr ⟨List.mem_append_left _ (List.mem_of_getElem? (i := 7) rfl), rfl⟩
theorem ws_X3_endCommit : Cond.selects RX3 yX3_endCommit yX3_endCommit ∈ m_tbl := List.mem_filter.mpr ⟨List.mem_append_left _ (List.mem_of_getElem? (i := 8) rfl), rfl⟩
theorem ws_X3_dropGroups : Cond.selects RX3 yX3_dropGroups yX3_dropGroups ∈ m_tbl := List.mem_filter.mpr ⟨List.mem_append_left _ (List.mem_of_getElem? (i := 9) rfl), rfl⟩
theorem ws_X3_passTick : Cond.selects RX3 yX3_passTick yX3_passTick ∈ m_tbl := List.mem_filter.mpr ⟨List.mem_append_left _ (List.mem_of_getElem? (i := 10) rfl), rfl⟩
theorem ws_X3_finishWriting : Cond.selects RX3 yX3_finishWriting yX3_finishWriting ∈ m_tbl := List.mem_filter.mpr ⟨List.mem_append_left _ (List.mem_of_getElem? (i := 11) rfl), rfl⟩
theorem ws_X5_characterAt : Cond.selects RX5 yX5_characterAt yX5_characterAt ∈ m_tbl := List.mem_filter.mpr ⟨List.mem_append_left _ (List.mem_of_getElem? (i := 12) rfl), rfl⟩
theorem ws_X5_readNumber : Cond.selects RX5 yX5_readNumber yX5_readNumber ∈ m_tbl := List.mem_filter.mpr ⟨List.mem_append_left _ (List.mem_of_getElem? (i := 13) rfl), rfl⟩
theorem ws_X5_readRecords : Cond.selects RX5 yX5_readRecords yX5_readRecords ∈ m_tbl := List.mem_filter.mpr ⟨List.mem_append_left _ (List.mem_of_getElem? (i := 14) rfl), rfl⟩
theorem ws_X7_carryOutOrder : Cond.selects RX7 yX7_carryOutOrder yX7_carryOutOrder ∈ m_tbl := List.mem_filter.mpr ⟨List.mem_append_left _ (List.mem_of_getElem? (i := 15) rfl), rfl⟩
theorem ws_X3_busyClients : Cond.selects RX3 yX3_busyClients yX3_busyClients ∈ m_tbl := List.mem_filter.mpr ⟨List.mem_append_left _ (List.mem_of_getElem? (i := 16) rfl), rfl⟩
theorem ws_X3_ticksToWritten : Cond.selects RX3 yX3_ticksToWritten yX3_ticksToWritten ∈ m_tbl := List.mem_filter.mpr ⟨List.mem_append_left _ (List.mem_of_getElem? (i := 17) rfl), rfl⟩
theorem ws_X3_ticksToEndOfWriting : Cond.selects RX3 yX3_ticksToEndOfWriting yX3_ticksToEndOfWriting ∈ m_tbl := List.mem_filter.mpr ⟨List.mem_append_left _ (List.mem_of_getElem? (i := 18) rfl), rfl⟩
theorem ws_X3_ticksToFreeDisk : Cond.selects RX3 yX3_ticksToFreeDisk yX3_ticksToFreeDisk ∈ m_tbl := List.mem_filter.mpr ⟨List.mem_append_left _ (List.mem_of_getElem? (i := 19) rfl), rfl⟩
theorem ws_X8_record : Cond.selects RX8 yX8_record yX8_record ∈ m_tbl := List.mem_filter.mpr ⟨List.mem_append_left _ (List.mem_of_getElem? (i := 20) rfl), rfl⟩
theorem ws_X8_whyNotSubmitted : Cond.selects RX8 yX8_whyNotSubmitted yX8_whyNotSubmitted ∈ m_tbl := List.mem_filter.mpr ⟨List.mem_append_left _ (List.mem_of_getElem? (i := 21) rfl), rfl⟩
theorem ws_X8_openOf : Cond.selects RX8 yX8_openOf yX8_openOf ∈ m_tbl := List.mem_filter.mpr ⟨List.mem_append_left _ (List.mem_of_getElem? (i := 22) rfl), rfl⟩
theorem ws_X8_of : Cond.selects RX8 yX8_of yX8_of ∈ m_tbl := List.mem_filter.mpr ⟨List.mem_append_left _ (List.mem_of_getElem? (i := 23) rfl), rfl⟩
theorem ws_X8_doesSubmit : Cond.selects RX8 yX8_doesSubmit yX8_doesSubmit ∈ m_tbl := List.mem_filter.mpr ⟨List.mem_append_left _ (List.mem_of_getElem? (i := 24) rfl), rfl⟩
theorem ws_X8_begin : Cond.selects RX8 yX8_begin yX8_begin ∈ m_tbl := List.mem_filter.mpr ⟨List.mem_append_left _ (List.mem_of_getElem? (i := 25) rfl), rfl⟩
theorem ws_X8_setGroup : Cond.selects RX8 yX8_setGroup yX8_setGroup ∈ m_tbl := List.mem_filter.mpr ⟨List.mem_append_left _ (List.mem_of_getElem? (i := 26) rfl), rfl⟩
theorem ws_X8_setOf : Cond.selects RX8 yX8_setOf yX8_setOf ∈ m_tbl := List.mem_filter.mpr ⟨List.mem_append_left _ (List.mem_of_getElem? (i := 27) rfl), rfl⟩
theorem ws_X8_recordsOf : Cond.selects RX8 yX8_recordsOf yX8_recordsOf ∈ m_tbl := List.mem_filter.mpr ⟨List.mem_append_left _ (List.mem_of_getElem? (i := 28) rfl), rfl⟩
theorem ws_X8_isIn : Cond.selects RX8 yX8_isIn yX8_isIn ∈ m_tbl := List.mem_filter.mpr ⟨List.mem_append_left _ (List.mem_of_getElem? (i := 29) rfl), rfl⟩
theorem ws_X8_isLate : Cond.selects RX8 yX8_isLate yX8_isLate ∈ m_tbl := List.mem_filter.mpr ⟨List.mem_append_left _ (List.mem_of_getElem? (i := 30) rfl), rfl⟩
theorem ws_X8_ofGroup : Cond.selects RX8 yX8_ofGroup yX8_ofGroup ∈ m_tbl := List.mem_filter.mpr ⟨List.mem_append_left _ (List.mem_of_getElem? (i := 31) rfl), rfl⟩
theorem ws_X8_close : Cond.selects RX8 yX8_close yX8_close ∈ m_tbl := List.mem_filter.mpr ⟨List.mem_append_left _ (List.mem_of_getElem? (i := 32) rfl), rfl⟩
theorem ws_X8_turnMembers : Cond.selects RX8 yX8_turnMembers yX8_turnMembers ∈ m_tbl := List.mem_filter.mpr ⟨List.mem_append_left _ (List.mem_of_getElem? (i := 33) rfl), rfl⟩
theorem ws_X8_members : Cond.selects RX8 yX8_members yX8_members ∈ m_tbl := List.mem_filter.mpr ⟨List.mem_append_left _ (List.mem_of_getElem? (i := 34) rfl), rfl⟩
theorem ws_X8_goOn : Cond.selects RX8 yX8_goOn yX8_goOn ∈ m_tbl := List.mem_filter.mpr ⟨List.mem_append_left _ (List.mem_of_getElem? (i := 35) rfl), rfl⟩
theorem ws_X8_queuedAt : Cond.selects RX8 yX8_queuedAt yX8_queuedAt ∈ m_tbl := List.mem_filter.mpr ⟨List.mem_append_left _ (List.mem_of_getElem? (i := 36) rfl), rfl⟩
theorem ws_X8_doesFail : Cond.selects RX8 yX8_doesFail yX8_doesFail ∈ m_tbl := List.mem_filter.mpr ⟨List.mem_append_left _ (List.mem_of_getElem? (i := 37) rfl), rfl⟩
theorem ws_X8_takeOut : Cond.selects RX8 yX8_takeOut yX8_takeOut ∈ m_tbl := List.mem_filter.mpr ⟨List.mem_append_left _ (List.mem_of_getElem? (i := 38) rfl), rfl⟩
theorem ws_X8_memberAt : Cond.selects RX8 yX8_memberAt yX8_memberAt ∈ m_tbl := List.mem_filter.mpr ⟨List.mem_append_left _ (List.mem_of_getElem? (i := 39) rfl), rfl⟩
theorem ws_X8_canWithdraw : Cond.selects RX8 yX8_canWithdraw yX8_canWithdraw ∈ m_tbl := List.mem_filter.mpr ⟨List.mem_append_left _ (List.mem_of_getElem? (i := 40) rfl), rfl⟩
theorem ws_X8_doesWithdraw : Cond.selects RX8 yX8_doesWithdraw yX8_doesWithdraw ∈ m_tbl := List.mem_filter.mpr ⟨List.mem_append_left _ (List.mem_of_getElem? (i := 41) rfl), rfl⟩
theorem ws_X8_doesCrash : Cond.selects RX8 yX8_doesCrash yX8_doesCrash ∈ m_tbl := List.mem_filter.mpr ⟨List.mem_append_left _ (List.mem_of_getElem? (i := 42) rfl), rfl⟩
theorem ws_X8_ticks : Cond.selects RX8 yX8_ticks yX8_ticks ∈ m_tbl := List.mem_filter.mpr ⟨List.mem_append_left _ (List.mem_of_getElem? (i := 43) rfl), rfl⟩
theorem ws_X8_tickOnce : Cond.selects RX8 yX8_tickOnce yX8_tickOnce ∈ m_tbl := List.mem_filter.mpr ⟨List.mem_append_left _ (List.mem_of_getElem? (i := 44) rfl), rfl⟩
theorem ws_X8_answerAll : Cond.selects RX8 yX8_answerAll yX8_answerAll ∈ m_tbl := List.mem_filter.mpr ⟨List.mem_append_left _ (List.mem_of_getElem? (i := 45) rfl), rfl⟩
theorem ws_X8_findFault : Cond.selects RX8 yX8_findFault yX8_findFault ∈ m_tbl := List.mem_filter.mpr ⟨List.mem_append_left _ (List.mem_of_getElem? (i := 46) rfl), rfl⟩
theorem ws_X8_readsOrder : Cond.selects RX8 yX8_readsOrder yX8_readsOrder ∈ m_tbl := List.mem_filter.mpr ⟨List.mem_append_left _ (List.mem_of_getElem? (i := 47) rfl), rfl⟩
theorem ws_X8_nextCharacter : Cond.selects RX8 yX8_nextCharacter yX8_nextCharacter ∈ m_tbl := List.mem_filter.mpr ⟨List.mem_append_left _ (List.mem_of_getElem? (i := 48) rfl), rfl⟩
theorem ws_X8_readsNumber : Cond.selects RX8 yX8_readsNumber yX8_readsNumber ∈ m_tbl := List.mem_filter.mpr ⟨List.mem_append_left _ (List.mem_of_getElem? (i := 49) rfl), rfl⟩
theorem ws_X8_readsSubmit : Cond.selects RX8 yX8_readsSubmit yX8_readsSubmit ∈ m_tbl := List.mem_filter.mpr ⟨List.mem_append_left _ (List.mem_of_getElem? (i := 50) rfl), rfl⟩
theorem ws_X8_takes : Cond.selects RX8 yX8_takes yX8_takes ∈ m_tbl := List.mem_filter.mpr ⟨List.mem_append_left _ (List.mem_of_getElem? (i := 51) rfl), rfl⟩
theorem ws_X8_doesOrder : Cond.selects RX8 yX8_doesOrder yX8_doesOrder ∈ m_tbl := List.mem_filter.mpr ⟨List.mem_append_left _ (List.mem_of_getElem? (i := 52) rfl), rfl⟩
theorem ws_X8_tellsGroup : Cond.selects RX8 yX8_tellsGroup yX8_tellsGroup ∈ m_tbl := List.mem_filter.mpr ⟨List.mem_append_left _ (List.mem_of_getElem? (i := 53) rfl), rfl⟩
theorem ws_X8_queuedMany : Cond.selects RX8 yX8_queuedMany yX8_queuedMany ∈ m_tbl := List.mem_filter.mpr ⟨List.mem_append_left _ (List.mem_of_getElem? (i := 54) rfl), rfl⟩
theorem ws_X8_busyMany : Cond.selects RX8 yX8_busyMany yX8_busyMany ∈ m_tbl := List.mem_filter.mpr ⟨List.mem_append_left _ (List.mem_of_getElem? (i := 55) rfl), rfl⟩
theorem ws_X8_putAside : Cond.selects RX8 yX8_putAside yX8_putAside ∈ m_tbl := List.mem_filter.mpr ⟨List.mem_append_left _ (List.mem_of_getElem? (i := 56) rfl), rfl⟩
theorem ws_X8_ticksFor : Cond.selects RX8 yX8_ticksFor yX8_ticksFor ∈ m_tbl := List.mem_filter.mpr ⟨List.mem_append_left _ (List.mem_of_getElem? (i := 57) rfl), rfl⟩
theorem ws_X8_takeBack : Cond.selects RX8 yX8_takeBack yX8_takeBack ∈ m_tbl := List.mem_filter.mpr ⟨List.mem_append_left _ (List.mem_of_getElem? (i := 58) rfl), rfl⟩
theorem ws_X8_lowestFree : Cond.selects RX8 yX8_lowestFree yX8_lowestFree ∈ m_tbl := List.mem_filter.mpr ⟨List.mem_append_left _ (List.mem_of_getElem? (i := 59) rfl), rfl⟩
theorem inX0 : ∀ w ∈ u_ws RX0 TX0 9, w ∈ m_tbl := by
  intro w hw
  obtain ⟨k, hk, rfl⟩ := List.mem_map.mp hw
  have hk := List.mem_range.mp hk
  match k, hk with
  | 0, _ => exact m_t1 (List.mem_of_getElem? (i := 41) rfl) rfl
  | 1, _ => exact m_t1 (List.mem_of_getElem? (i := 43) rfl) rfl
  | 2, _ => exact m_t1 (List.mem_of_getElem? (i := 45) rfl) rfl
  | 3, _ => exact m_t1 (List.mem_of_getElem? (i := 47) rfl) rfl
  | 4, _ => exact m_t1 (List.mem_of_getElem? (i := 49) rfl) rfl
  | 5, _ => exact m_t1 (List.mem_of_getElem? (i := 51) rfl) rfl
  | 6, _ => exact m_t1 (List.mem_of_getElem? (i := 53) rfl) rfl
  | 7, _ => exact m_t1 (List.mem_of_getElem? (i := 55) rfl) rfl
  | 8, _ => exact m_t1 (List.mem_of_getElem? (i := 57) rfl) rfl
theorem inX1 : ∀ w ∈ u_ws RX1 TX1 5, w ∈ m_tbl := by
  intro w hw
  obtain ⟨k, hk, rfl⟩ := List.mem_map.mp hw
  have hk := List.mem_range.mp hk
  match k, hk with
  | 0, _ => exact m_t1 (List.mem_of_getElem? (i := 73) rfl) rfl
  | 1, _ => exact m_t1 (List.mem_of_getElem? (i := 75) rfl) rfl
  | 2, _ => exact m_t1 (List.mem_of_getElem? (i := 77) rfl) rfl
  | 3, _ => exact m_t1 (List.mem_of_getElem? (i := 79) rfl) rfl
  | 4, _ => exact m_t1 (List.mem_of_getElem? (i := 81) rfl) rfl
theorem inX2 : ∀ w ∈ u_ws RX2 TX2 3, w ∈ m_tbl := by
  intro w hw
  obtain ⟨k, hk, rfl⟩ := List.mem_map.mp hw
  have hk := List.mem_range.mp hk
  match k, hk with
  | 0, _ => exact m_t1 (List.mem_of_getElem? (i := 164) rfl) rfl
  | 1, _ => exact m_t1 (List.mem_of_getElem? (i := 166) rfl) rfl
  | 2, _ => exact m_t1 (List.mem_of_getElem? (i := 168) rfl) rfl
theorem inX3 : ∀ w ∈ u_ws RX3 TX3 12, w ∈ m_tbl := by
  intro w hw
  obtain ⟨k, hk, rfl⟩ := List.mem_map.mp hw
  have hk := List.mem_range.mp hk
  match k, hk with
  | 0, _ => exact m_t1 (List.mem_of_getElem? (i := 127) rfl) rfl
  | 1, _ => exact m_t1 (List.mem_of_getElem? (i := 129) rfl) rfl
  | 2, _ => exact m_t1 (List.mem_of_getElem? (i := 131) rfl) rfl
  | 3, _ => exact m_t1 (List.mem_of_getElem? (i := 133) rfl) rfl
  | 4, _ => exact m_t1 (List.mem_of_getElem? (i := 135) rfl) rfl
  | 5, _ => exact m_t1 (List.mem_of_getElem? (i := 137) rfl) rfl
  | 6, _ => exact m_t1 (List.mem_of_getElem? (i := 139) rfl) rfl
  | 7, _ => exact m_t1 (List.mem_of_getElem? (i := 141) rfl) rfl
  | 8, _ => exact m_t1 (List.mem_of_getElem? (i := 143) rfl) rfl
  | 9, _ => exact m_t1 (List.mem_of_getElem? (i := 145) rfl) rfl
  | 10, _ => exact m_t1 (List.mem_of_getElem? (i := 147) rfl) rfl
  | 11, _ => exact m_t1 (List.mem_of_getElem? (i := 149) rfl) rfl
theorem inX4 : ∀ w ∈ u_ws RX4 TX4 3, w ∈ m_tbl := by
  intro w hw
  obtain ⟨k, hk, rfl⟩ := List.mem_map.mp hw
  have hk := List.mem_range.mp hk
  match k, hk with
  | 0, _ => exact m_t1 (List.mem_of_getElem? (i := 93) rfl) rfl
  | 1, _ => exact m_t1 (List.mem_of_getElem? (i := 95) rfl) rfl
  | 2, _ => exact m_t1 (List.mem_of_getElem? (i := 97) rfl) rfl
theorem inX5 : ∀ w ∈ u_ws RX5 TX5 7, w ∈ m_tbl := by
  intro w hw
  obtain ⟨k, hk, rfl⟩ := List.mem_map.mp hw
  have hk := List.mem_range.mp hk
  match k, hk with
  | 0, _ => exact m_t1 (List.mem_of_getElem? (i := 184) rfl) rfl
  | 1, _ => exact m_t1 (List.mem_of_getElem? (i := 186) rfl) rfl
  | 2, _ => exact m_t1 (List.mem_of_getElem? (i := 188) rfl) rfl
  | 3, _ => exact m_t1 (List.mem_of_getElem? (i := 190) rfl) rfl
  | 4, _ => exact m_t1 (List.mem_of_getElem? (i := 192) rfl) rfl
  | 5, _ => exact m_t1 (List.mem_of_getElem? (i := 194) rfl) rfl
  | 6, _ => exact m_t1 (List.mem_of_getElem? (i := 196) rfl) rfl
theorem inX6 : ∀ w ∈ u_ws RX6 TX6 1, w ∈ m_tbl := by
  intro w hw
  obtain ⟨k, hk, rfl⟩ := List.mem_map.mp hw
  have hk := List.mem_range.mp hk
  match k, hk with
  | 0, _ => exact m_t1 (List.mem_of_getElem? (i := 112) rfl) rfl
theorem inX7 : ∀ w ∈ u_ws RX7 TX7 5, w ∈ m_tbl := by
  intro w hw
  obtain ⟨k, hk, rfl⟩ := List.mem_map.mp hw
  have hk := List.mem_range.mp hk
  match k, hk with
  | 0, _ => exact m_t1 (List.mem_of_getElem? (i := 205) rfl) rfl
  | 1, _ => exact m_t1 (List.mem_of_getElem? (i := 207) rfl) rfl
  | 2, _ => exact m_t1 (List.mem_of_getElem? (i := 209) rfl) rfl
  | 3, _ => exact m_t1 (List.mem_of_getElem? (i := 211) rfl) rfl
  | 4, _ => exact m_t1 (List.mem_of_getElem? (i := 213) rfl) rfl
theorem inX8 : ∀ w ∈ u_ws RX8 TX8 13, w ∈ m_tbl := by
  intro w hw
  obtain ⟨k, hk, rfl⟩ := List.mem_map.mp hw
  have hk := List.mem_range.mp hk
  match k, hk with
  | 0, _ => exact m_t4 (List.mem_of_getElem? (i := 22) rfl) rfl
  | 1, _ => exact m_t4 (List.mem_of_getElem? (i := 24) rfl) rfl
  | 2, _ => exact m_t4 (List.mem_of_getElem? (i := 26) rfl) rfl
  | 3, _ => exact m_t4 (List.mem_of_getElem? (i := 28) rfl) rfl
  | 4, _ => exact m_t4 (List.mem_of_getElem? (i := 30) rfl) rfl
  | 5, _ => exact m_t4 (List.mem_of_getElem? (i := 32) rfl) rfl
  | 6, _ => exact m_t4 (List.mem_of_getElem? (i := 34) rfl) rfl
  | 7, _ => exact m_t4 (List.mem_of_getElem? (i := 36) rfl) rfl
  | 8, _ => exact m_t4 (List.mem_of_getElem? (i := 38) rfl) rfl
  | 9, _ => exact m_t4 (List.mem_of_getElem? (i := 40) rfl) rfl
  | 10, _ => exact m_t4 (List.mem_of_getElem? (i := 42) rfl) rfl
  | 11, _ => exact m_t4 (List.mem_of_getElem? (i := 44) rfl) rfl
  | 12, _ => exact m_t4 (List.mem_of_getElem? (i := 46) rfl) rfl
theorem hv_X0_init : yX0_init.cls = RX0 ∧ yX0_init.cls ≠ "java/lang/invoke/MethodHandle" ∧ yX0_init.cls ≠ "java/lang/invoke/VarHandle" ∧ (parseMethodDescriptor yX0_init.desc).map (fun d => d.parameters.length) = some 0 := by decide +kernel
theorem hy_X0_init : plainName yX0_init.cls = true := by decide +kernel
theorem hv_X0_copyFrom : yX0_copyFrom.cls = RX0 ∧ yX0_copyFrom.cls ≠ "java/lang/invoke/MethodHandle" ∧ yX0_copyFrom.cls ≠ "java/lang/invoke/VarHandle" ∧ (parseMethodDescriptor yX0_copyFrom.desc).map (fun d => d.parameters.length) = some 1 := by decide +kernel
theorem hy_X0_copyFrom : plainName yX0_copyFrom.cls = true := by decide +kernel
theorem hv_X0_has : yX0_has.cls = RX0 ∧ yX0_has.cls ≠ "java/lang/invoke/MethodHandle" ∧ yX0_has.cls ≠ "java/lang/invoke/VarHandle" ∧ (parseMethodDescriptor yX0_has.desc).map (fun d => d.parameters.length) = some 1 := by decide +kernel
theorem hy_X0_has : plainName yX0_has.cls = true := by decide +kernel
theorem hv_X0_isFull : yX0_isFull.cls = RX0 ∧ yX0_isFull.cls ≠ "java/lang/invoke/MethodHandle" ∧ yX0_isFull.cls ≠ "java/lang/invoke/VarHandle" ∧ (parseMethodDescriptor yX0_isFull.desc).map (fun d => d.parameters.length) = some 0 := by decide +kernel
theorem hy_X0_isFull : plainName yX0_isFull.cls = true := by decide +kernel
theorem hv_X0_add : yX0_add.cls = RX0 ∧ yX0_add.cls ≠ "java/lang/invoke/MethodHandle" ∧ yX0_add.cls ≠ "java/lang/invoke/VarHandle" ∧ (parseMethodDescriptor yX0_add.desc).map (fun d => d.parameters.length) = some 5 := by decide +kernel
theorem hy_X0_add : plainName yX0_add.cls = true := by decide +kernel
theorem hv_X0_clientOf : yX0_clientOf.cls = RX0 ∧ yX0_clientOf.cls ≠ "java/lang/invoke/MethodHandle" ∧ yX0_clientOf.cls ≠ "java/lang/invoke/VarHandle" ∧ (parseMethodDescriptor yX0_clientOf.desc).map (fun d => d.parameters.length) = some 1 := by decide +kernel
theorem hy_X0_clientOf : plainName yX0_clientOf.cls = true := by decide +kernel
theorem hv_X0_recordsOf : yX0_recordsOf.cls = RX0 ∧ yX0_recordsOf.cls ≠ "java/lang/invoke/MethodHandle" ∧ yX0_recordsOf.cls ≠ "java/lang/invoke/VarHandle" ∧ (parseMethodDescriptor yX0_recordsOf.desc).map (fun d => d.parameters.length) = some 1 := by decide +kernel
theorem hy_X0_recordsOf : plainName yX0_recordsOf.cls = true := by decide +kernel
theorem hv_X0_isUrgent : yX0_isUrgent.cls = RX0 ∧ yX0_isUrgent.cls ≠ "java/lang/invoke/MethodHandle" ∧ yX0_isUrgent.cls ≠ "java/lang/invoke/VarHandle" ∧ (parseMethodDescriptor yX0_isUrgent.desc).map (fun d => d.parameters.length) = some 1 := by decide +kernel
theorem hy_X0_isUrgent : plainName yX0_isUrgent.cls = true := by decide +kernel
theorem hv_X0_stateOf : yX0_stateOf.cls = RX0 ∧ yX0_stateOf.cls ≠ "java/lang/invoke/MethodHandle" ∧ yX0_stateOf.cls ≠ "java/lang/invoke/VarHandle" ∧ (parseMethodDescriptor yX0_stateOf.desc).map (fun d => d.parameters.length) = some 1 := by decide +kernel
theorem hy_X0_stateOf : plainName yX0_stateOf.cls = true := by decide +kernel
theorem hv_X0_setState : yX0_setState.cls = RX0 ∧ yX0_setState.cls ≠ "java/lang/invoke/MethodHandle" ∧ yX0_setState.cls ≠ "java/lang/invoke/VarHandle" ∧ (parseMethodDescriptor yX0_setState.desc).map (fun d => d.parameters.length) = some 2 := by decide +kernel
theorem hy_X0_setState : plainName yX0_setState.cls = true := by decide +kernel
theorem hv_X0_submitTimeOf : yX0_submitTimeOf.cls = RX0 ∧ yX0_submitTimeOf.cls ≠ "java/lang/invoke/MethodHandle" ∧ yX0_submitTimeOf.cls ≠ "java/lang/invoke/VarHandle" ∧ (parseMethodDescriptor yX0_submitTimeOf.desc).map (fun d => d.parameters.length) = some 1 := by decide +kernel
theorem hy_X0_submitTimeOf : plainName yX0_submitTimeOf.cls = true := by decide +kernel
theorem hv_X0_answerTimeOf : yX0_answerTimeOf.cls = RX0 ∧ yX0_answerTimeOf.cls ≠ "java/lang/invoke/MethodHandle" ∧ yX0_answerTimeOf.cls ≠ "java/lang/invoke/VarHandle" ∧ (parseMethodDescriptor yX0_answerTimeOf.desc).map (fun d => d.parameters.length) = some 1 := by decide +kernel
theorem hy_X0_answerTimeOf : plainName yX0_answerTimeOf.cls = true := by decide +kernel
theorem hv_X0_answer : yX0_answer.cls = RX0 ∧ yX0_answer.cls ≠ "java/lang/invoke/MethodHandle" ∧ yX0_answer.cls ≠ "java/lang/invoke/VarHandle" ∧ (parseMethodDescriptor yX0_answer.desc).map (fun d => d.parameters.length) = some 2 := by decide +kernel
theorem hy_X0_answer : plainName yX0_answer.cls = true := by decide +kernel
theorem hv_X0_groupOf : yX0_groupOf.cls = RX0 ∧ yX0_groupOf.cls ≠ "java/lang/invoke/MethodHandle" ∧ yX0_groupOf.cls ≠ "java/lang/invoke/VarHandle" ∧ (parseMethodDescriptor yX0_groupOf.desc).map (fun d => d.parameters.length) = some 1 := by decide +kernel
theorem hy_X0_groupOf : plainName yX0_groupOf.cls = true := by decide +kernel
theorem hv_X0_leaveGroup : yX0_leaveGroup.cls = RX0 ∧ yX0_leaveGroup.cls ≠ "java/lang/invoke/MethodHandle" ∧ yX0_leaveGroup.cls ≠ "java/lang/invoke/VarHandle" ∧ (parseMethodDescriptor yX0_leaveGroup.desc).map (fun d => d.parameters.length) = some 1 := by decide +kernel
theorem hy_X0_leaveGroup : plainName yX0_leaveGroup.cls = true := by decide +kernel
theorem hv_X0_memberAt : yX0_memberAt.cls = RX0 ∧ yX0_memberAt.cls ≠ "java/lang/invoke/MethodHandle" ∧ yX0_memberAt.cls ≠ "java/lang/invoke/VarHandle" ∧ (parseMethodDescriptor yX0_memberAt.desc).map (fun d => d.parameters.length) = some 2 := by decide +kernel
theorem hy_X0_memberAt : plainName yX0_memberAt.cls = true := by decide +kernel
theorem hv_X0_moveMembers : yX0_moveMembers.cls = RX0 ∧ yX0_moveMembers.cls ≠ "java/lang/invoke/MethodHandle" ∧ yX0_moveMembers.cls ≠ "java/lang/invoke/VarHandle" ∧ (parseMethodDescriptor yX0_moveMembers.desc).map (fun d => d.parameters.length) = some 3 := by decide +kernel
theorem hy_X0_moveMembers : plainName yX0_moveMembers.cls = true := by decide +kernel
theorem hv_X1_init : yX1_init.cls = RX1 ∧ yX1_init.cls ≠ "java/lang/invoke/MethodHandle" ∧ yX1_init.cls ≠ "java/lang/invoke/VarHandle" ∧ (parseMethodDescriptor yX1_init.desc).map (fun d => d.parameters.length) = some 0 := by decide +kernel
theorem hy_X1_init : plainName yX1_init.cls = true := by decide +kernel
theorem hv_X1_copyFrom : yX1_copyFrom.cls = RX1 ∧ yX1_copyFrom.cls ≠ "java/lang/invoke/MethodHandle" ∧ yX1_copyFrom.cls ≠ "java/lang/invoke/VarHandle" ∧ (parseMethodDescriptor yX1_copyFrom.desc).map (fun d => d.parameters.length) = some 1 := by decide +kernel
theorem hy_X1_copyFrom : plainName yX1_copyFrom.cls = true := by decide +kernel
theorem hv_X1_has : yX1_has.cls = RX1 ∧ yX1_has.cls ≠ "java/lang/invoke/MethodHandle" ∧ yX1_has.cls ≠ "java/lang/invoke/VarHandle" ∧ (parseMethodDescriptor yX1_has.desc).map (fun d => d.parameters.length) = some 1 := by decide +kernel
theorem hy_X1_has : plainName yX1_has.cls = true := by decide +kernel
theorem hv_X1_begin : yX1_begin.cls = RX1 ∧ yX1_begin.cls ≠ "java/lang/invoke/MethodHandle" ∧ yX1_begin.cls ≠ "java/lang/invoke/VarHandle" ∧ (parseMethodDescriptor yX1_begin.desc).map (fun d => d.parameters.length) = some 0 := by decide +kernel
theorem hy_X1_begin : plainName yX1_begin.cls = true := by decide +kernel
theorem hv_X1_join : yX1_join.cls = RX1 ∧ yX1_join.cls ≠ "java/lang/invoke/MethodHandle" ∧ yX1_join.cls ≠ "java/lang/invoke/VarHandle" ∧ (parseMethodDescriptor yX1_join.desc).map (fun d => d.parameters.length) = some 2 := by decide +kernel
theorem hy_X1_join : plainName yX1_join.cls = true := by decide +kernel
theorem hv_X1_leave : yX1_leave.cls = RX1 ∧ yX1_leave.cls ≠ "java/lang/invoke/MethodHandle" ∧ yX1_leave.cls ≠ "java/lang/invoke/VarHandle" ∧ (parseMethodDescriptor yX1_leave.desc).map (fun d => d.parameters.length) = some 2 := by decide +kernel
theorem hy_X1_leave : plainName yX1_leave.cls = true := by decide +kernel
theorem hv_X1_close : yX1_close.cls = RX1 ∧ yX1_close.cls ≠ "java/lang/invoke/MethodHandle" ∧ yX1_close.cls ≠ "java/lang/invoke/VarHandle" ∧ (parseMethodDescriptor yX1_close.desc).map (fun d => d.parameters.length) = some 2 := by decide +kernel
theorem hy_X1_close : plainName yX1_close.cls = true := by decide +kernel
theorem hv_X1_setState : yX1_setState.cls = RX1 ∧ yX1_setState.cls ≠ "java/lang/invoke/MethodHandle" ∧ yX1_setState.cls ≠ "java/lang/invoke/VarHandle" ∧ (parseMethodDescriptor yX1_setState.desc).map (fun d => d.parameters.length) = some 2 := by decide +kernel
theorem hy_X1_setState : plainName yX1_setState.cls = true := by decide +kernel
theorem hv_X1_stateOf : yX1_stateOf.cls = RX1 ∧ yX1_stateOf.cls ≠ "java/lang/invoke/MethodHandle" ∧ yX1_stateOf.cls ≠ "java/lang/invoke/VarHandle" ∧ (parseMethodDescriptor yX1_stateOf.desc).map (fun d => d.parameters.length) = some 1 := by decide +kernel
theorem hy_X1_stateOf : plainName yX1_stateOf.cls = true := by decide +kernel
theorem hv_X1_membersOf : yX1_membersOf.cls = RX1 ∧ yX1_membersOf.cls ≠ "java/lang/invoke/MethodHandle" ∧ yX1_membersOf.cls ≠ "java/lang/invoke/VarHandle" ∧ (parseMethodDescriptor yX1_membersOf.desc).map (fun d => d.parameters.length) = some 1 := by decide +kernel
theorem hy_X1_membersOf : plainName yX1_membersOf.cls = true := by decide +kernel
theorem hv_X1_recordsOf : yX1_recordsOf.cls = RX1 ∧ yX1_recordsOf.cls ≠ "java/lang/invoke/MethodHandle" ∧ yX1_recordsOf.cls ≠ "java/lang/invoke/VarHandle" ∧ (parseMethodDescriptor yX1_recordsOf.desc).map (fun d => d.parameters.length) = some 1 := by decide +kernel
theorem hy_X1_recordsOf : plainName yX1_recordsOf.cls = true := by decide +kernel
theorem hv_X1_reasonOf : yX1_reasonOf.cls = RX1 ∧ yX1_reasonOf.cls ≠ "java/lang/invoke/MethodHandle" ∧ yX1_reasonOf.cls ≠ "java/lang/invoke/VarHandle" ∧ (parseMethodDescriptor yX1_reasonOf.desc).map (fun d => d.parameters.length) = some 1 := by decide +kernel
theorem hy_X1_reasonOf : plainName yX1_reasonOf.cls = true := by decide +kernel
theorem hv_X2_init : yX2_init.cls = RX2 ∧ yX2_init.cls ≠ "java/lang/invoke/MethodHandle" ∧ yX2_init.cls ≠ "java/lang/invoke/VarHandle" ∧ (parseMethodDescriptor yX2_init.desc).map (fun d => d.parameters.length) = some 0 := by decide +kernel
theorem hy_X2_init : plainName yX2_init.cls = true := by decide +kernel
theorem hv_X2_size : yX2_size.cls = RX2 ∧ yX2_size.cls ≠ "java/lang/invoke/MethodHandle" ∧ yX2_size.cls ≠ "java/lang/invoke/VarHandle" ∧ (parseMethodDescriptor yX2_size.desc).map (fun d => d.parameters.length) = some 0 := by decide +kernel
theorem hy_X2_size : plainName yX2_size.cls = true := by decide +kernel
theorem hv_X2_push : yX2_push.cls = RX2 ∧ yX2_push.cls ≠ "java/lang/invoke/MethodHandle" ∧ yX2_push.cls ≠ "java/lang/invoke/VarHandle" ∧ (parseMethodDescriptor yX2_push.desc).map (fun d => d.parameters.length) = some 1 := by decide +kernel
theorem hy_X2_push : plainName yX2_push.cls = true := by decide +kernel
theorem hv_X2_popInto : yX2_popInto.cls = RX2 ∧ yX2_popInto.cls ≠ "java/lang/invoke/MethodHandle" ∧ yX2_popInto.cls ≠ "java/lang/invoke/VarHandle" ∧ (parseMethodDescriptor yX2_popInto.desc).map (fun d => d.parameters.length) = some 1 := by decide +kernel
theorem hy_X2_popInto : plainName yX2_popInto.cls = true := by decide +kernel
theorem hv_X3_init : yX3_init.cls = RX3 ∧ yX3_init.cls ≠ "java/lang/invoke/MethodHandle" ∧ yX3_init.cls ≠ "java/lang/invoke/VarHandle" ∧ (parseMethodDescriptor yX3_init.desc).map (fun d => d.parameters.length) = some 0 := by decide +kernel
theorem hy_X3_init : plainName yX3_init.cls = true := by decide +kernel
theorem hv_X3_copyFrom : yX3_copyFrom.cls = RX3 ∧ yX3_copyFrom.cls ≠ "java/lang/invoke/MethodHandle" ∧ yX3_copyFrom.cls ≠ "java/lang/invoke/VarHandle" ∧ (parseMethodDescriptor yX3_copyFrom.desc).map (fun d => d.parameters.length) = some 1 := by decide +kernel
theorem hy_X3_copyFrom : plainName yX3_copyFrom.cls = true := by decide +kernel
theorem hv_X3_isClient : yX3_isClient.cls ≠ "java/lang/invoke/MethodHandle" ∧ yX3_isClient.cls ≠ "java/lang/invoke/VarHandle" ∧ (parseMethodDescriptor yX3_isClient.desc).map (fun d => d.parameters.length) = some 1 := by decide +kernel
theorem hy_X3_isClient : plainName yX3_isClient.cls = true := by decide +kernel
theorem hv_X3_openCommitOf : yX3_openCommitOf.cls = RX3 ∧ yX3_openCommitOf.cls ≠ "java/lang/invoke/MethodHandle" ∧ yX3_openCommitOf.cls ≠ "java/lang/invoke/VarHandle" ∧ (parseMethodDescriptor yX3_openCommitOf.desc).map (fun d => d.parameters.length) = some 1 := by decide +kernel
theorem hy_X3_openCommitOf : plainName yX3_openCommitOf.cls = true := by decide +kernel
theorem hv_X3_setOpenCommit : yX3_setOpenCommit.cls = RX3 ∧ yX3_setOpenCommit.cls ≠ "java/lang/invoke/MethodHandle" ∧ yX3_setOpenCommit.cls ≠ "java/lang/invoke/VarHandle" ∧ (parseMethodDescriptor yX3_setOpenCommit.desc).map (fun d => d.parameters.length) = some 2 := by decide +kernel
theorem hy_X3_setOpenCommit : plainName yX3_setOpenCommit.cls = true := by decide +kernel
theorem hv_X3_busyClients : yX3_busyClients.cls = RX3 ∧ yX3_busyClients.cls ≠ "java/lang/invoke/MethodHandle" ∧ yX3_busyClients.cls ≠ "java/lang/invoke/VarHandle" ∧ (parseMethodDescriptor yX3_busyClients.desc).map (fun d => d.parameters.length) = some 0 := by decide +kernel
theorem hy_X3_busyClients : plainName yX3_busyClients.cls = true := by decide +kernel
theorem hv_X3_isRecords : yX3_isRecords.cls ≠ "java/lang/invoke/MethodHandle" ∧ yX3_isRecords.cls ≠ "java/lang/invoke/VarHandle" ∧ (parseMethodDescriptor yX3_isRecords.desc).map (fun d => d.parameters.length) = some 1 := by decide +kernel
theorem hy_X3_isRecords : plainName yX3_isRecords.cls = true := by decide +kernel
theorem hv_X3_refusalToEnter : yX3_refusalToEnter.cls = RX3 ∧ yX3_refusalToEnter.cls ≠ "java/lang/invoke/MethodHandle" ∧ yX3_refusalToEnter.cls ≠ "java/lang/invoke/VarHandle" ∧ (parseMethodDescriptor yX3_refusalToEnter.desc).map (fun d => d.parameters.length) = some 2 := by decide +kernel
theorem hy_X3_refusalToEnter : plainName yX3_refusalToEnter.cls = true := by decide +kernel
theorem hv_X3_refusalOfAnyEntry : yX3_refusalOfAnyEntry.cls = RX3 ∧ yX3_refusalOfAnyEntry.cls ≠ "java/lang/invoke/MethodHandle" ∧ yX3_refusalOfAnyEntry.cls ≠ "java/lang/invoke/VarHandle" ∧ (parseMethodDescriptor yX3_refusalOfAnyEntry.desc).map (fun d => d.parameters.length) = some 1 := by decide +kernel
theorem hy_X3_refusalOfAnyEntry : plainName yX3_refusalOfAnyEntry.cls = true := by decide +kernel
theorem hv_X3_enter : yX3_enter.cls = RX3 ∧ yX3_enter.cls ≠ "java/lang/invoke/MethodHandle" ∧ yX3_enter.cls ≠ "java/lang/invoke/VarHandle" ∧ (parseMethodDescriptor yX3_enter.desc).map (fun d => d.parameters.length) = some 3 := by decide +kernel
theorem hy_X3_enter : plainName yX3_enter.cls = true := by decide +kernel
theorem hv_X3_loseClient : yX3_loseClient.cls = RX3 ∧ yX3_loseClient.cls ≠ "java/lang/invoke/MethodHandle" ∧ yX3_loseClient.cls ≠ "java/lang/invoke/VarHandle" ∧ (parseMethodDescriptor yX3_loseClient.desc).map (fun d => d.parameters.length) = some 1 := by decide +kernel
theorem hy_X3_loseClient : plainName yX3_loseClient.cls = true := by decide +kernel
theorem hv_X3_refusalToTakeBack : yX3_refusalToTakeBack.cls = RX3 ∧ yX3_refusalToTakeBack.cls ≠ "java/lang/invoke/MethodHandle" ∧ yX3_refusalToTakeBack.cls ≠ "java/lang/invoke/VarHandle" ∧ (parseMethodDescriptor yX3_refusalToTakeBack.desc).map (fun d => d.parameters.length) = some 1 := by decide +kernel
theorem hy_X3_refusalToTakeBack : plainName yX3_refusalToTakeBack.cls = true := by decide +kernel
theorem hv_X3_takeBack : yX3_takeBack.cls = RX3 ∧ yX3_takeBack.cls ≠ "java/lang/invoke/MethodHandle" ∧ yX3_takeBack.cls ≠ "java/lang/invoke/VarHandle" ∧ (parseMethodDescriptor yX3_takeBack.desc).map (fun d => d.parameters.length) = some 1 := by decide +kernel
theorem hy_X3_takeBack : plainName yX3_takeBack.cls = true := by decide +kernel
theorem hv_X3_endCommit : yX3_endCommit.cls = RX3 ∧ yX3_endCommit.cls ≠ "java/lang/invoke/MethodHandle" ∧ yX3_endCommit.cls ≠ "java/lang/invoke/VarHandle" ∧ (parseMethodDescriptor yX3_endCommit.desc).map (fun d => d.parameters.length) = some 2 := by decide +kernel
theorem hy_X3_endCommit : plainName yX3_endCommit.cls = true := by decide +kernel
theorem hv_X3_beginGroup : yX3_beginGroup.cls = RX3 ∧ yX3_beginGroup.cls ≠ "java/lang/invoke/MethodHandle" ∧ yX3_beginGroup.cls ≠ "java/lang/invoke/VarHandle" ∧ (parseMethodDescriptor yX3_beginGroup.desc).map (fun d => d.parameters.length) = some 0 := by decide +kernel
theorem hy_X3_beginGroup : plainName yX3_beginGroup.cls = true := by decide +kernel
theorem hv_X3_reasonToClose : yX3_reasonToClose.cls = RX3 ∧ yX3_reasonToClose.cls ≠ "java/lang/invoke/MethodHandle" ∧ yX3_reasonToClose.cls ≠ "java/lang/invoke/VarHandle" ∧ (parseMethodDescriptor yX3_reasonToClose.desc).map (fun d => d.parameters.length) = some 3 := by decide +kernel
theorem hy_X3_reasonToClose : plainName yX3_reasonToClose.cls = true := by decide +kernel
theorem hv_X3_closeGathering : yX3_closeGathering.cls = RX3 ∧ yX3_closeGathering.cls ≠ "java/lang/invoke/MethodHandle" ∧ yX3_closeGathering.cls ≠ "java/lang/invoke/VarHandle" ∧ (parseMethodDescriptor yX3_closeGathering.desc).map (fun d => d.parameters.length) = some 1 := by decide +kernel
theorem hy_X3_closeGathering : plainName yX3_closeGathering.cls = true := by decide +kernel
theorem hv_X3_learnWait : yX3_learnWait.cls = RX3 ∧ yX3_learnWait.cls ≠ "java/lang/invoke/MethodHandle" ∧ yX3_learnWait.cls ≠ "java/lang/invoke/VarHandle" ∧ (parseMethodDescriptor yX3_learnWait.desc).map (fun d => d.parameters.length) = some 1 := by decide +kernel
theorem hy_X3_learnWait : plainName yX3_learnWait.cls = true := by decide +kernel
theorem hv_X3_leaveGathering : yX3_leaveGathering.cls = RX3 ∧ yX3_leaveGathering.cls ≠ "java/lang/invoke/MethodHandle" ∧ yX3_leaveGathering.cls ≠ "java/lang/invoke/VarHandle" ∧ (parseMethodDescriptor yX3_leaveGathering.desc).map (fun d => d.parameters.length) = some 1 := by decide +kernel
theorem hy_X3_leaveGathering : plainName yX3_leaveGathering.cls = true := by decide +kernel
theorem hv_X3_ticksToWrite : yX3_ticksToWrite.cls = RX3 ∧ yX3_ticksToWrite.cls ≠ "java/lang/invoke/MethodHandle" ∧ yX3_ticksToWrite.cls ≠ "java/lang/invoke/VarHandle" ∧ (parseMethodDescriptor yX3_ticksToWrite.desc).map (fun d => d.parameters.length) = some 1 := by decide +kernel
theorem hy_X3_ticksToWrite : plainName yX3_ticksToWrite.cls = true := by decide +kernel
theorem hv_X3_startWriting : yX3_startWriting.cls = RX3 ∧ yX3_startWriting.cls ≠ "java/lang/invoke/MethodHandle" ∧ yX3_startWriting.cls ≠ "java/lang/invoke/VarHandle" ∧ (parseMethodDescriptor yX3_startWriting.desc).map (fun d => d.parameters.length) = some 0 := by decide +kernel
theorem hy_X3_startWriting : plainName yX3_startWriting.cls = true := by decide +kernel
theorem hv_X3_time : yX3_time.cls = RX3 ∧ yX3_time.cls ≠ "java/lang/invoke/MethodHandle" ∧ yX3_time.cls ≠ "java/lang/invoke/VarHandle" ∧ (parseMethodDescriptor yX3_time.desc).map (fun d => d.parameters.length) = some 0 := by decide +kernel
theorem hy_X3_time : plainName yX3_time.cls = true := by decide +kernel
theorem hv_X3_change : yX3_change.cls = RX3 ∧ yX3_change.cls ≠ "java/lang/invoke/MethodHandle" ∧ yX3_change.cls ≠ "java/lang/invoke/VarHandle" ∧ (parseMethodDescriptor yX3_change.desc).map (fun d => d.parameters.length) = some 2 := by decide +kernel
theorem hy_X3_change : plainName yX3_change.cls = true := by decide +kernel
theorem hv_X3_passTicks : yX3_passTicks.cls = RX3 ∧ yX3_passTicks.cls ≠ "java/lang/invoke/MethodHandle" ∧ yX3_passTicks.cls ≠ "java/lang/invoke/VarHandle" ∧ (parseMethodDescriptor yX3_passTicks.desc).map (fun d => d.parameters.length) = some 1 := by decide +kernel
theorem hy_X3_passTicks : plainName yX3_passTicks.cls = true := by decide +kernel
theorem hv_X3_passTick : yX3_passTick.cls = RX3 ∧ yX3_passTick.cls ≠ "java/lang/invoke/MethodHandle" ∧ yX3_passTick.cls ≠ "java/lang/invoke/VarHandle" ∧ (parseMethodDescriptor yX3_passTick.desc).map (fun d => d.parameters.length) = some 0 := by decide +kernel
theorem hy_X3_passTick : plainName yX3_passTick.cls = true := by decide +kernel
theorem hv_X3_finishWriting : yX3_finishWriting.cls = RX3 ∧ yX3_finishWriting.cls ≠ "java/lang/invoke/MethodHandle" ∧ yX3_finishWriting.cls ≠ "java/lang/invoke/VarHandle" ∧ (parseMethodDescriptor yX3_finishWriting.desc).map (fun d => d.parameters.length) = some 0 := by decide +kernel
theorem hy_X3_finishWriting : plainName yX3_finishWriting.cls = true := by decide +kernel
theorem hv_X3_loseAll : yX3_loseAll.cls = RX3 ∧ yX3_loseAll.cls ≠ "java/lang/invoke/MethodHandle" ∧ yX3_loseAll.cls ≠ "java/lang/invoke/VarHandle" ∧ (parseMethodDescriptor yX3_loseAll.desc).map (fun d => d.parameters.length) = some 0 := by decide +kernel
theorem hy_X3_loseAll : plainName yX3_loseAll.cls = true := by decide +kernel
theorem hv_X3_dropGroups : yX3_dropGroups.cls = RX3 ∧ yX3_dropGroups.cls ≠ "java/lang/invoke/MethodHandle" ∧ yX3_dropGroups.cls ≠ "java/lang/invoke/VarHandle" ∧ (parseMethodDescriptor yX3_dropGroups.desc).map (fun d => d.parameters.length) = some 0 := by decide +kernel
theorem hy_X3_dropGroups : plainName yX3_dropGroups.cls = true := by decide +kernel
theorem hv_X3_aboutCommit : yX3_aboutCommit.cls = RX3 ∧ yX3_aboutCommit.cls ≠ "java/lang/invoke/MethodHandle" ∧ yX3_aboutCommit.cls ≠ "java/lang/invoke/VarHandle" ∧ (parseMethodDescriptor yX3_aboutCommit.desc).map (fun d => d.parameters.length) = some 2 := by decide +kernel
theorem hy_X3_aboutCommit : plainName yX3_aboutCommit.cls = true := by decide +kernel
theorem hv_X3_aboutGroup : yX3_aboutGroup.cls = RX3 ∧ yX3_aboutGroup.cls ≠ "java/lang/invoke/MethodHandle" ∧ yX3_aboutGroup.cls ≠ "java/lang/invoke/VarHandle" ∧ (parseMethodDescriptor yX3_aboutGroup.desc).map (fun d => d.parameters.length) = some 2 := by decide +kernel
theorem hy_X3_aboutGroup : plainName yX3_aboutGroup.cls = true := by decide +kernel
theorem hv_X3_memberAt : yX3_memberAt.cls = RX3 ∧ yX3_memberAt.cls ≠ "java/lang/invoke/MethodHandle" ∧ yX3_memberAt.cls ≠ "java/lang/invoke/VarHandle" ∧ (parseMethodDescriptor yX3_memberAt.desc).map (fun d => d.parameters.length) = some 2 := by decide +kernel
theorem hy_X3_memberAt : plainName yX3_memberAt.cls = true := by decide +kernel
theorem hv_X3_queuedAt : yX3_queuedAt.cls = RX3 ∧ yX3_queuedAt.cls ≠ "java/lang/invoke/MethodHandle" ∧ yX3_queuedAt.cls ≠ "java/lang/invoke/VarHandle" ∧ (parseMethodDescriptor yX3_queuedAt.desc).map (fun d => d.parameters.length) = some 1 := by decide +kernel
theorem hy_X3_queuedAt : plainName yX3_queuedAt.cls = true := by decide +kernel
theorem hv_X3_aboutNow : yX3_aboutNow.cls = RX3 ∧ yX3_aboutNow.cls ≠ "java/lang/invoke/MethodHandle" ∧ yX3_aboutNow.cls ≠ "java/lang/invoke/VarHandle" ∧ (parseMethodDescriptor yX3_aboutNow.desc).map (fun d => d.parameters.length) = some 1 := by decide +kernel
theorem hy_X3_aboutNow : plainName yX3_aboutNow.cls = true := by decide +kernel
theorem hv_X3_totalOf : yX3_totalOf.cls = RX3 ∧ yX3_totalOf.cls ≠ "java/lang/invoke/MethodHandle" ∧ yX3_totalOf.cls ≠ "java/lang/invoke/VarHandle" ∧ (parseMethodDescriptor yX3_totalOf.desc).map (fun d => d.parameters.length) = some 1 := by decide +kernel
theorem hy_X3_totalOf : plainName yX3_totalOf.cls = true := by decide +kernel
theorem hv_X3_meanTicks : yX3_meanTicks.cls = RX3 ∧ yX3_meanTicks.cls ≠ "java/lang/invoke/MethodHandle" ∧ yX3_meanTicks.cls ≠ "java/lang/invoke/VarHandle" ∧ (parseMethodDescriptor yX3_meanTicks.desc).map (fun d => d.parameters.length) = some 0 := by decide +kernel
theorem hy_X3_meanTicks : plainName yX3_meanTicks.cls = true := by decide +kernel
theorem hv_X3_ticksToAnswer : yX3_ticksToAnswer.cls = RX3 ∧ yX3_ticksToAnswer.cls ≠ "java/lang/invoke/MethodHandle" ∧ yX3_ticksToAnswer.cls ≠ "java/lang/invoke/VarHandle" ∧ (parseMethodDescriptor yX3_ticksToAnswer.desc).map (fun d => d.parameters.length) = some 1 := by decide +kernel
theorem hy_X3_ticksToAnswer : plainName yX3_ticksToAnswer.cls = true := by decide +kernel
theorem hv_X3_ticksToWritten : yX3_ticksToWritten.cls = RX3 ∧ yX3_ticksToWritten.cls ≠ "java/lang/invoke/MethodHandle" ∧ yX3_ticksToWritten.cls ≠ "java/lang/invoke/VarHandle" ∧ (parseMethodDescriptor yX3_ticksToWritten.desc).map (fun d => d.parameters.length) = some 1 := by decide +kernel
theorem hy_X3_ticksToWritten : plainName yX3_ticksToWritten.cls = true := by decide +kernel
theorem hv_X3_ticksToEndOfWriting : yX3_ticksToEndOfWriting.cls = RX3 ∧ yX3_ticksToEndOfWriting.cls ≠ "java/lang/invoke/MethodHandle" ∧ yX3_ticksToEndOfWriting.cls ≠ "java/lang/invoke/VarHandle" ∧ (parseMethodDescriptor yX3_ticksToEndOfWriting.desc).map (fun d => d.parameters.length) = some 0 := by decide +kernel
theorem hy_X3_ticksToEndOfWriting : plainName yX3_ticksToEndOfWriting.cls = true := by decide +kernel
theorem hv_X3_ticksToFreeDisk : yX3_ticksToFreeDisk.cls = RX3 ∧ yX3_ticksToFreeDisk.cls ≠ "java/lang/invoke/MethodHandle" ∧ yX3_ticksToFreeDisk.cls ≠ "java/lang/invoke/VarHandle" ∧ (parseMethodDescriptor yX3_ticksToFreeDisk.desc).map (fun d => d.parameters.length) = some 0 := by decide +kernel
theorem hy_X3_ticksToFreeDisk : plainName yX3_ticksToFreeDisk.cls = true := by decide +kernel
theorem hv_X3_ticksIfEntered : yX3_ticksIfEntered.cls = RX3 ∧ yX3_ticksIfEntered.cls ≠ "java/lang/invoke/MethodHandle" ∧ yX3_ticksIfEntered.cls ≠ "java/lang/invoke/VarHandle" ∧ (parseMethodDescriptor yX3_ticksIfEntered.desc).map (fun d => d.parameters.length) = some 2 := by decide +kernel
theorem hy_X3_ticksIfEntered : plainName yX3_ticksIfEntered.cls = true := by decide +kernel
theorem hv_X3_ticksToIdle : yX3_ticksToIdle.cls = RX3 ∧ yX3_ticksToIdle.cls ≠ "java/lang/invoke/MethodHandle" ∧ yX3_ticksToIdle.cls ≠ "java/lang/invoke/VarHandle" ∧ (parseMethodDescriptor yX3_ticksToIdle.desc).map (fun d => d.parameters.length) = some 0 := by decide +kernel
theorem hy_X3_ticksToIdle : plainName yX3_ticksToIdle.cls = true := by decide +kernel
theorem hv_X4_init : yX4_init.cls = RX4 ∧ yX4_init.cls ≠ "java/lang/invoke/MethodHandle" ∧ yX4_init.cls ≠ "java/lang/invoke/VarHandle" ∧ (parseMethodDescriptor yX4_init.desc).map (fun d => d.parameters.length) = some 0 := by decide +kernel
theorem hy_X4_init : plainName yX4_init.cls = true := by decide +kernel
theorem hv_X4_copyFrom : yX4_copyFrom.cls = RX4 ∧ yX4_copyFrom.cls ≠ "java/lang/invoke/MethodHandle" ∧ yX4_copyFrom.cls ≠ "java/lang/invoke/VarHandle" ∧ (parseMethodDescriptor yX4_copyFrom.desc).map (fun d => d.parameters.length) = some 1 := by decide +kernel
theorem hy_X4_copyFrom : plainName yX4_copyFrom.cls = true := by decide +kernel
theorem hv_X4_size : yX4_size.cls = RX4 ∧ yX4_size.cls ≠ "java/lang/invoke/MethodHandle" ∧ yX4_size.cls ≠ "java/lang/invoke/VarHandle" ∧ (parseMethodDescriptor yX4_size.desc).map (fun d => d.parameters.length) = some 0 := by decide +kernel
theorem hy_X4_size : plainName yX4_size.cls = true := by decide +kernel
theorem hv_X4_add : yX4_add.cls = RX4 ∧ yX4_add.cls ≠ "java/lang/invoke/MethodHandle" ∧ yX4_add.cls ≠ "java/lang/invoke/VarHandle" ∧ (parseMethodDescriptor yX4_add.desc).map (fun d => d.parameters.length) = some 1 := by decide +kernel
theorem hy_X4_add : plainName yX4_add.cls = true := by decide +kernel
theorem hv_X4_at : yX4_at.cls = RX4 ∧ yX4_at.cls ≠ "java/lang/invoke/MethodHandle" ∧ yX4_at.cls ≠ "java/lang/invoke/VarHandle" ∧ (parseMethodDescriptor yX4_at.desc).map (fun d => d.parameters.length) = some 1 := by decide +kernel
theorem hy_X4_at : plainName yX4_at.cls = true := by decide +kernel
theorem hv_X4_takeFirst : yX4_takeFirst.cls = RX4 ∧ yX4_takeFirst.cls ≠ "java/lang/invoke/MethodHandle" ∧ yX4_takeFirst.cls ≠ "java/lang/invoke/VarHandle" ∧ (parseMethodDescriptor yX4_takeFirst.desc).map (fun d => d.parameters.length) = some 0 := by decide +kernel
theorem hy_X4_takeFirst : plainName yX4_takeFirst.cls = true := by decide +kernel
theorem hv_X5_init : yX5_init.cls = RX5 ∧ yX5_init.cls ≠ "java/lang/invoke/MethodHandle" ∧ yX5_init.cls ≠ "java/lang/invoke/VarHandle" ∧ (parseMethodDescriptor yX5_init.desc).map (fun d => d.parameters.length) = some 0 := by decide +kernel
theorem hy_X5_init : plainName yX5_init.cls = true := by decide +kernel
theorem hv_X5_length : yX5_length.cls = RX5 ∧ yX5_length.cls ≠ "java/lang/invoke/MethodHandle" ∧ yX5_length.cls ≠ "java/lang/invoke/VarHandle" ∧ (parseMethodDescriptor yX5_length.desc).map (fun d => d.parameters.length) = some 0 := by decide +kernel
theorem hy_X5_length : plainName yX5_length.cls = true := by decide +kernel
theorem hv_X5_add : yX5_add.cls = RX5 ∧ yX5_add.cls ≠ "java/lang/invoke/MethodHandle" ∧ yX5_add.cls ≠ "java/lang/invoke/VarHandle" ∧ (parseMethodDescriptor yX5_add.desc).map (fun d => d.parameters.length) = some 1 := by decide +kernel
theorem hy_X5_add : plainName yX5_add.cls = true := by decide +kernel
theorem hv_X5_empty : yX5_empty.cls = RX5 ∧ yX5_empty.cls ≠ "java/lang/invoke/MethodHandle" ∧ yX5_empty.cls ≠ "java/lang/invoke/VarHandle" ∧ (parseMethodDescriptor yX5_empty.desc).map (fun d => d.parameters.length) = some 0 := by decide +kernel
theorem hy_X5_empty : plainName yX5_empty.cls = true := by decide +kernel
theorem hv_X5_characterAt : yX5_characterAt.cls = RX5 ∧ yX5_characterAt.cls ≠ "java/lang/invoke/MethodHandle" ∧ yX5_characterAt.cls ≠ "java/lang/invoke/VarHandle" ∧ (parseMethodDescriptor yX5_characterAt.desc).map (fun d => d.parameters.length) = some 1 := by decide +kernel
theorem hy_X5_characterAt : plainName yX5_characterAt.cls = true := by decide +kernel
theorem hv_X5_firstFault : yX5_firstFault.cls = RX5 ∧ yX5_firstFault.cls ≠ "java/lang/invoke/MethodHandle" ∧ yX5_firstFault.cls ≠ "java/lang/invoke/VarHandle" ∧ (parseMethodDescriptor yX5_firstFault.desc).map (fun d => d.parameters.length) = some 0 := by decide +kernel
theorem hy_X5_firstFault : plainName yX5_firstFault.cls = true := by decide +kernel
theorem hv_X5_isComplete : yX5_isComplete.cls ≠ "java/lang/invoke/MethodHandle" ∧ yX5_isComplete.cls ≠ "java/lang/invoke/VarHandle" ∧ (parseMethodDescriptor yX5_isComplete.desc).map (fun d => d.parameters.length) = some 1 := by decide +kernel
theorem hy_X5_isComplete : plainName yX5_isComplete.cls = true := by decide +kernel
theorem hv_X5_after : yX5_after.cls ≠ "java/lang/invoke/MethodHandle" ∧ yX5_after.cls ≠ "java/lang/invoke/VarHandle" ∧ (parseMethodDescriptor yX5_after.desc).map (fun d => d.parameters.length) = some 2 := by decide +kernel
theorem hy_X5_after : plainName yX5_after.cls = true := by decide +kernel
theorem hv_X5_afterFirst : yX5_afterFirst.cls ≠ "java/lang/invoke/MethodHandle" ∧ yX5_afterFirst.cls ≠ "java/lang/invoke/VarHandle" ∧ (parseMethodDescriptor yX5_afterFirst.desc).map (fun d => d.parameters.length) = some 1 := by decide +kernel
theorem hy_X5_afterFirst : plainName yX5_afterFirst.cls = true := by decide +kernel
theorem hv_X5_isDigit : yX5_isDigit.cls ≠ "java/lang/invoke/MethodHandle" ∧ yX5_isDigit.cls ≠ "java/lang/invoke/VarHandle" ∧ (parseMethodDescriptor yX5_isDigit.desc).map (fun d => d.parameters.length) = some 1 := by decide +kernel
theorem hy_X5_isDigit : plainName yX5_isDigit.cls = true := by decide +kernel
theorem hv_X5_orders : yX5_orders.cls = RX5 ∧ yX5_orders.cls ≠ "java/lang/invoke/MethodHandle" ∧ yX5_orders.cls ≠ "java/lang/invoke/VarHandle" ∧ (parseMethodDescriptor yX5_orders.desc).map (fun d => d.parameters.length) = some 0 := by decide +kernel
theorem hy_X5_orders : plainName yX5_orders.cls = true := by decide +kernel
theorem hv_X5_goToStart : yX5_goToStart.cls = RX5 ∧ yX5_goToStart.cls ≠ "java/lang/invoke/MethodHandle" ∧ yX5_goToStart.cls ≠ "java/lang/invoke/VarHandle" ∧ (parseMethodDescriptor yX5_goToStart.desc).map (fun d => d.parameters.length) = some 0 := by decide +kernel
theorem hy_X5_goToStart : plainName yX5_goToStart.cls = true := by decide +kernel
theorem hv_X5_readOrder : yX5_readOrder.cls = RX5 ∧ yX5_readOrder.cls ≠ "java/lang/invoke/MethodHandle" ∧ yX5_readOrder.cls ≠ "java/lang/invoke/VarHandle" ∧ (parseMethodDescriptor yX5_readOrder.desc).map (fun d => d.parameters.length) = some 0 := by decide +kernel
theorem hy_X5_readOrder : plainName yX5_readOrder.cls = true := by decide +kernel
theorem hv_X5_kindOf : yX5_kindOf.cls ≠ "java/lang/invoke/MethodHandle" ∧ yX5_kindOf.cls ≠ "java/lang/invoke/VarHandle" ∧ (parseMethodDescriptor yX5_kindOf.desc).map (fun d => d.parameters.length) = some 1 := by decide +kernel
theorem hy_X5_kindOf : plainName yX5_kindOf.cls = true := by decide +kernel
theorem hv_X5_readNumber : yX5_readNumber.cls = RX5 ∧ yX5_readNumber.cls ≠ "java/lang/invoke/MethodHandle" ∧ yX5_readNumber.cls ≠ "java/lang/invoke/VarHandle" ∧ (parseMethodDescriptor yX5_readNumber.desc).map (fun d => d.parameters.length) = some 0 := by decide +kernel
theorem hy_X5_readNumber : plainName yX5_readNumber.cls = true := by decide +kernel
theorem hv_X5_readRecords : yX5_readRecords.cls = RX5 ∧ yX5_readRecords.cls ≠ "java/lang/invoke/MethodHandle" ∧ yX5_readRecords.cls ≠ "java/lang/invoke/VarHandle" ∧ (parseMethodDescriptor yX5_readRecords.desc).map (fun d => d.parameters.length) = some 0 := by decide +kernel
theorem hy_X5_readRecords : plainName yX5_readRecords.cls = true := by decide +kernel
theorem hv_X5_kind : yX5_kind.cls = RX5 ∧ yX5_kind.cls ≠ "java/lang/invoke/MethodHandle" ∧ yX5_kind.cls ≠ "java/lang/invoke/VarHandle" ∧ (parseMethodDescriptor yX5_kind.desc).map (fun d => d.parameters.length) = some 0 := by decide +kernel
theorem hy_X5_kind : plainName yX5_kind.cls = true := by decide +kernel
theorem hv_X5_number : yX5_number.cls = RX5 ∧ yX5_number.cls ≠ "java/lang/invoke/MethodHandle" ∧ yX5_number.cls ≠ "java/lang/invoke/VarHandle" ∧ (parseMethodDescriptor yX5_number.desc).map (fun d => d.parameters.length) = some 0 := by decide +kernel
theorem hy_X5_number : plainName yX5_number.cls = true := by decide +kernel
theorem hv_X5_records : yX5_records.cls = RX5 ∧ yX5_records.cls ≠ "java/lang/invoke/MethodHandle" ∧ yX5_records.cls ≠ "java/lang/invoke/VarHandle" ∧ (parseMethodDescriptor yX5_records.desc).map (fun d => d.parameters.length) = some 0 := by decide +kernel
theorem hy_X5_records : plainName yX5_records.cls = true := by decide +kernel
theorem hv_X5_isUrgent : yX5_isUrgent.cls = RX5 ∧ yX5_isUrgent.cls ≠ "java/lang/invoke/MethodHandle" ∧ yX5_isUrgent.cls ≠ "java/lang/invoke/VarHandle" ∧ (parseMethodDescriptor yX5_isUrgent.desc).map (fun d => d.parameters.length) = some 0 := by decide +kernel
theorem hy_X5_isUrgent : plainName yX5_isUrgent.cls = true := by decide +kernel
theorem hv_X6_init : yX6_init.cls = RX6 ∧ yX6_init.cls ≠ "java/lang/invoke/MethodHandle" ∧ yX6_init.cls ≠ "java/lang/invoke/VarHandle" ∧ (parseMethodDescriptor yX6_init.desc).map (fun d => d.parameters.length) = some 0 := by decide +kernel
theorem hy_X6_init : plainName yX6_init.cls = true := by decide +kernel
theorem hv_X6_copyFrom : yX6_copyFrom.cls = RX6 ∧ yX6_copyFrom.cls ≠ "java/lang/invoke/MethodHandle" ∧ yX6_copyFrom.cls ≠ "java/lang/invoke/VarHandle" ∧ (parseMethodDescriptor yX6_copyFrom.desc).map (fun d => d.parameters.length) = some 1 := by decide +kernel
theorem hy_X6_copyFrom : plainName yX6_copyFrom.cls = true := by decide +kernel
theorem hv_X6_refusal : yX6_refusal.cls ≠ "java/lang/invoke/MethodHandle" ∧ yX6_refusal.cls ≠ "java/lang/invoke/VarHandle" ∧ (parseMethodDescriptor yX6_refusal.desc).map (fun d => d.parameters.length) = some 2 := by decide +kernel
theorem hy_X6_refusal : plainName yX6_refusal.cls = true := by decide +kernel
theorem hv_X6_valueOf : yX6_valueOf.cls = RX6 ∧ yX6_valueOf.cls ≠ "java/lang/invoke/MethodHandle" ∧ yX6_valueOf.cls ≠ "java/lang/invoke/VarHandle" ∧ (parseMethodDescriptor yX6_valueOf.desc).map (fun d => d.parameters.length) = some 1 := by decide +kernel
theorem hy_X6_valueOf : plainName yX6_valueOf.cls = true := by decide +kernel
theorem hv_X6_change : yX6_change.cls = RX6 ∧ yX6_change.cls ≠ "java/lang/invoke/MethodHandle" ∧ yX6_change.cls ≠ "java/lang/invoke/VarHandle" ∧ (parseMethodDescriptor yX6_change.desc).map (fun d => d.parameters.length) = some 2 := by decide +kernel
theorem hy_X6_change : plainName yX6_change.cls = true := by decide +kernel
theorem hv_X7_init : yX7_init.cls = RX7 ∧ yX7_init.cls ≠ "java/lang/invoke/MethodHandle" ∧ yX7_init.cls ≠ "java/lang/invoke/VarHandle" ∧ (parseMethodDescriptor yX7_init.desc).map (fun d => d.parameters.length) = some 0 := by decide +kernel
theorem hy_X7_init : plainName yX7_init.cls = true := by decide +kernel
theorem hv_X7_submit : yX7_submit.cls = RX7 ∧ yX7_submit.cls ≠ "java/lang/invoke/MethodHandle" ∧ yX7_submit.cls ≠ "java/lang/invoke/VarHandle" ∧ (parseMethodDescriptor yX7_submit.desc).map (fun d => d.parameters.length) = some 3 := by decide +kernel
theorem hy_X7_submit : plainName yX7_submit.cls = true := by decide +kernel
theorem hv_X7_fail : yX7_fail.cls = RX7 ∧ yX7_fail.cls ≠ "java/lang/invoke/MethodHandle" ∧ yX7_fail.cls ≠ "java/lang/invoke/VarHandle" ∧ (parseMethodDescriptor yX7_fail.desc).map (fun d => d.parameters.length) = some 1 := by decide +kernel
theorem hy_X7_fail : plainName yX7_fail.cls = true := by decide +kernel
theorem hv_X7_withdraw : yX7_withdraw.cls = RX7 ∧ yX7_withdraw.cls ≠ "java/lang/invoke/MethodHandle" ∧ yX7_withdraw.cls ≠ "java/lang/invoke/VarHandle" ∧ (parseMethodDescriptor yX7_withdraw.desc).map (fun d => d.parameters.length) = some 1 := by decide +kernel
theorem hy_X7_withdraw : plainName yX7_withdraw.cls = true := by decide +kernel
theorem hv_X7_crash : yX7_crash.cls = RX7 ∧ yX7_crash.cls ≠ "java/lang/invoke/MethodHandle" ∧ yX7_crash.cls ≠ "java/lang/invoke/VarHandle" ∧ (parseMethodDescriptor yX7_crash.desc).map (fun d => d.parameters.length) = some 0 := by decide +kernel
theorem hy_X7_crash : plainName yX7_crash.cls = true := by decide +kernel
theorem hv_X7_tick : yX7_tick.cls = RX7 ∧ yX7_tick.cls ≠ "java/lang/invoke/MethodHandle" ∧ yX7_tick.cls ≠ "java/lang/invoke/VarHandle" ∧ (parseMethodDescriptor yX7_tick.desc).map (fun d => d.parameters.length) = some 1 := by decide +kernel
theorem hy_X7_tick : plainName yX7_tick.cls = true := by decide +kernel
theorem hv_X7_set : yX7_set.cls = RX7 ∧ yX7_set.cls ≠ "java/lang/invoke/MethodHandle" ∧ yX7_set.cls ≠ "java/lang/invoke/VarHandle" ∧ (parseMethodDescriptor yX7_set.desc).map (fun d => d.parameters.length) = some 2 := by decide +kernel
theorem hy_X7_set : plainName yX7_set.cls = true := by decide +kernel
theorem hv_X7_append : yX7_append.cls = RX7 ∧ yX7_append.cls ≠ "java/lang/invoke/MethodHandle" ∧ yX7_append.cls ≠ "java/lang/invoke/VarHandle" ∧ (parseMethodDescriptor yX7_append.desc).map (fun d => d.parameters.length) = some 1 := by decide +kernel
theorem hy_X7_append : plainName yX7_append.cls = true := by decide +kernel
theorem hv_X7_clearText : yX7_clearText.cls = RX7 ∧ yX7_clearText.cls ≠ "java/lang/invoke/MethodHandle" ∧ yX7_clearText.cls ≠ "java/lang/invoke/VarHandle" ∧ (parseMethodDescriptor yX7_clearText.desc).map (fun d => d.parameters.length) = some 0 := by decide +kernel
theorem hy_X7_clearText : plainName yX7_clearText.cls = true := by decide +kernel
theorem hv_X7_fault : yX7_fault.cls = RX7 ∧ yX7_fault.cls ≠ "java/lang/invoke/MethodHandle" ∧ yX7_fault.cls ≠ "java/lang/invoke/VarHandle" ∧ (parseMethodDescriptor yX7_fault.desc).map (fun d => d.parameters.length) = some 0 := by decide +kernel
theorem hy_X7_fault : plainName yX7_fault.cls = true := by decide +kernel
theorem hv_X7_run : yX7_run.cls = RX7 ∧ yX7_run.cls ≠ "java/lang/invoke/MethodHandle" ∧ yX7_run.cls ≠ "java/lang/invoke/VarHandle" ∧ (parseMethodDescriptor yX7_run.desc).map (fun d => d.parameters.length) = some 0 := by decide +kernel
theorem hy_X7_run : plainName yX7_run.cls = true := by decide +kernel
theorem hv_X7_carryOutOrder : yX7_carryOutOrder.cls = RX7 ∧ yX7_carryOutOrder.cls ≠ "java/lang/invoke/MethodHandle" ∧ yX7_carryOutOrder.cls ≠ "java/lang/invoke/VarHandle" ∧ (parseMethodDescriptor yX7_carryOutOrder.desc).map (fun d => d.parameters.length) = some 0 := by decide +kernel
theorem hy_X7_carryOutOrder : plainName yX7_carryOutOrder.cls = true := by decide +kernel
theorem hv_X7_undo : yX7_undo.cls = RX7 ∧ yX7_undo.cls ≠ "java/lang/invoke/MethodHandle" ∧ yX7_undo.cls ≠ "java/lang/invoke/VarHandle" ∧ (parseMethodDescriptor yX7_undo.desc).map (fun d => d.parameters.length) = some 0 := by decide +kernel
theorem hy_X7_undo : plainName yX7_undo.cls = true := by decide +kernel
theorem hv_X7_save : yX7_save.cls = RX7 ∧ yX7_save.cls ≠ "java/lang/invoke/MethodHandle" ∧ yX7_save.cls ≠ "java/lang/invoke/VarHandle" ∧ (parseMethodDescriptor yX7_save.desc).map (fun d => d.parameters.length) = some 0 := by decide +kernel
theorem hy_X7_save : plainName yX7_save.cls = true := by decide +kernel
theorem hv_X7_restore : yX7_restore.cls = RX7 ∧ yX7_restore.cls ≠ "java/lang/invoke/MethodHandle" ∧ yX7_restore.cls ≠ "java/lang/invoke/VarHandle" ∧ (parseMethodDescriptor yX7_restore.desc).map (fun d => d.parameters.length) = some 0 := by decide +kernel
theorem hy_X7_restore : plainName yX7_restore.cls = true := by decide +kernel
theorem hv_X7_commit : yX7_commit.cls = RX7 ∧ yX7_commit.cls ≠ "java/lang/invoke/MethodHandle" ∧ yX7_commit.cls ≠ "java/lang/invoke/VarHandle" ∧ (parseMethodDescriptor yX7_commit.desc).map (fun d => d.parameters.length) = some 2 := by decide +kernel
theorem hy_X7_commit : plainName yX7_commit.cls = true := by decide +kernel
theorem hv_X7_group : yX7_group.cls = RX7 ∧ yX7_group.cls ≠ "java/lang/invoke/MethodHandle" ∧ yX7_group.cls ≠ "java/lang/invoke/VarHandle" ∧ (parseMethodDescriptor yX7_group.desc).map (fun d => d.parameters.length) = some 2 := by decide +kernel
theorem hy_X7_group : plainName yX7_group.cls = true := by decide +kernel
theorem hv_X7_member : yX7_member.cls = RX7 ∧ yX7_member.cls ≠ "java/lang/invoke/MethodHandle" ∧ yX7_member.cls ≠ "java/lang/invoke/VarHandle" ∧ (parseMethodDescriptor yX7_member.desc).map (fun d => d.parameters.length) = some 2 := by decide +kernel
theorem hy_X7_member : plainName yX7_member.cls = true := by decide +kernel
theorem hv_X7_open : yX7_open.cls = RX7 ∧ yX7_open.cls ≠ "java/lang/invoke/MethodHandle" ∧ yX7_open.cls ≠ "java/lang/invoke/VarHandle" ∧ (parseMethodDescriptor yX7_open.desc).map (fun d => d.parameters.length) = some 1 := by decide +kernel
theorem hy_X7_open : plainName yX7_open.cls = true := by decide +kernel
theorem hv_X7_queued : yX7_queued.cls = RX7 ∧ yX7_queued.cls ≠ "java/lang/invoke/MethodHandle" ∧ yX7_queued.cls ≠ "java/lang/invoke/VarHandle" ∧ (parseMethodDescriptor yX7_queued.desc).map (fun d => d.parameters.length) = some 1 := by decide +kernel
theorem hy_X7_queued : plainName yX7_queued.cls = true := by decide +kernel
theorem hv_X7_count : yX7_count.cls = RX7 ∧ yX7_count.cls ≠ "java/lang/invoke/MethodHandle" ∧ yX7_count.cls ≠ "java/lang/invoke/VarHandle" ∧ (parseMethodDescriptor yX7_count.desc).map (fun d => d.parameters.length) = some 1 := by decide +kernel
theorem hy_X7_count : plainName yX7_count.cls = true := by decide +kernel
theorem hv_X7_total : yX7_total.cls = RX7 ∧ yX7_total.cls ≠ "java/lang/invoke/MethodHandle" ∧ yX7_total.cls ≠ "java/lang/invoke/VarHandle" ∧ (parseMethodDescriptor yX7_total.desc).map (fun d => d.parameters.length) = some 1 := by decide +kernel
theorem hy_X7_total : plainName yX7_total.cls = true := by decide +kernel
theorem hv_X7_answeredIn : yX7_answeredIn.cls = RX7 ∧ yX7_answeredIn.cls ≠ "java/lang/invoke/MethodHandle" ∧ yX7_answeredIn.cls ≠ "java/lang/invoke/VarHandle" ∧ (parseMethodDescriptor yX7_answeredIn.desc).map (fun d => d.parameters.length) = some 1 := by decide +kernel
theorem hy_X7_answeredIn : plainName yX7_answeredIn.cls = true := by decide +kernel
theorem hv_X7_ifSubmitted : yX7_ifSubmitted.cls = RX7 ∧ yX7_ifSubmitted.cls ≠ "java/lang/invoke/MethodHandle" ∧ yX7_ifSubmitted.cls ≠ "java/lang/invoke/VarHandle" ∧ (parseMethodDescriptor yX7_ifSubmitted.desc).map (fun d => d.parameters.length) = some 2 := by decide +kernel
theorem hy_X7_ifSubmitted : plainName yX7_ifSubmitted.cls = true := by decide +kernel
theorem hv_X7_idleIn : yX7_idleIn.cls = RX7 ∧ yX7_idleIn.cls ≠ "java/lang/invoke/MethodHandle" ∧ yX7_idleIn.cls ≠ "java/lang/invoke/VarHandle" ∧ (parseMethodDescriptor yX7_idleIn.desc).map (fun d => d.parameters.length) = some 0 := by decide +kernel
theorem hy_X7_idleIn : plainName yX7_idleIn.cls = true := by decide +kernel
theorem hv_X7_mean : yX7_mean.cls = RX7 ∧ yX7_mean.cls ≠ "java/lang/invoke/MethodHandle" ∧ yX7_mean.cls ≠ "java/lang/invoke/VarHandle" ∧ (parseMethodDescriptor yX7_mean.desc).map (fun d => d.parameters.length) = some 0 := by decide +kernel
theorem hy_X7_mean : plainName yX7_mean.cls = true := by decide +kernel
theorem hv_X8_init : yX8_init.cls = RX8 ∧ yX8_init.cls ≠ "java/lang/invoke/MethodHandle" ∧ yX8_init.cls ≠ "java/lang/invoke/VarHandle" ∧ (parseMethodDescriptor yX8_init.desc).map (fun d => d.parameters.length) = some 0 := by decide +kernel
theorem hy_X8_init : plainName yX8_init.cls = true := by decide +kernel
theorem hv_X8_within : yX8_within.cls ≠ "java/lang/invoke/MethodHandle" ∧ yX8_within.cls ≠ "java/lang/invoke/VarHandle" ∧ (parseMethodDescriptor yX8_within.desc).map (fun d => d.parameters.length) = some 3 := by decide +kernel
theorem hy_X8_within : plainName yX8_within.cls = true := by decide +kernel
theorem hv_X8_isClient : yX8_isClient.cls ≠ "java/lang/invoke/MethodHandle" ∧ yX8_isClient.cls ≠ "java/lang/invoke/VarHandle" ∧ (parseMethodDescriptor yX8_isClient.desc).map (fun d => d.parameters.length) = some 1 := by decide +kernel
theorem hy_X8_isClient : plainName yX8_isClient.cls = true := by decide +kernel
theorem hv_X8_of : yX8_of.cls = RX8 ∧ yX8_of.cls ≠ "java/lang/invoke/MethodHandle" ∧ yX8_of.cls ≠ "java/lang/invoke/VarHandle" ∧ (parseMethodDescriptor yX8_of.desc).map (fun d => d.parameters.length) = some 2 := by decide +kernel
theorem hy_X8_of : plainName yX8_of.cls = true := by decide +kernel
theorem hv_X8_setOf : yX8_setOf.cls = RX8 ∧ yX8_setOf.cls ≠ "java/lang/invoke/MethodHandle" ∧ yX8_setOf.cls ≠ "java/lang/invoke/VarHandle" ∧ (parseMethodDescriptor yX8_setOf.desc).map (fun d => d.parameters.length) = some 3 := by decide +kernel
theorem hy_X8_setOf : plainName yX8_setOf.cls = true := by decide +kernel
theorem hv_X8_ofGroup : yX8_ofGroup.cls = RX8 ∧ yX8_ofGroup.cls ≠ "java/lang/invoke/MethodHandle" ∧ yX8_ofGroup.cls ≠ "java/lang/invoke/VarHandle" ∧ (parseMethodDescriptor yX8_ofGroup.desc).map (fun d => d.parameters.length) = some 2 := by decide +kernel
theorem hy_X8_ofGroup : plainName yX8_ofGroup.cls = true := by decide +kernel
theorem hv_X8_setGroup : yX8_setGroup.cls = RX8 ∧ yX8_setGroup.cls ≠ "java/lang/invoke/MethodHandle" ∧ yX8_setGroup.cls ≠ "java/lang/invoke/VarHandle" ∧ (parseMethodDescriptor yX8_setGroup.desc).map (fun d => d.parameters.length) = some 3 := by decide +kernel
theorem hy_X8_setGroup : plainName yX8_setGroup.cls = true := by decide +kernel
theorem hv_X8_record : yX8_record.cls = RX8 ∧ yX8_record.cls ≠ "java/lang/invoke/MethodHandle" ∧ yX8_record.cls ≠ "java/lang/invoke/VarHandle" ∧ (parseMethodDescriptor yX8_record.desc).map (fun d => d.parameters.length) = some 0 := by decide +kernel
theorem hy_X8_record : plainName yX8_record.cls = true := by decide +kernel
theorem hv_X8_undo : yX8_undo.cls = RX8 ∧ yX8_undo.cls ≠ "java/lang/invoke/MethodHandle" ∧ yX8_undo.cls ≠ "java/lang/invoke/VarHandle" ∧ (parseMethodDescriptor yX8_undo.desc).map (fun d => d.parameters.length) = some 0 := by decide +kernel
theorem hy_X8_undo : plainName yX8_undo.cls = true := by decide +kernel
theorem hv_X8_save : yX8_save.cls = RX8 ∧ yX8_save.cls ≠ "java/lang/invoke/MethodHandle" ∧ yX8_save.cls ≠ "java/lang/invoke/VarHandle" ∧ (parseMethodDescriptor yX8_save.desc).map (fun d => d.parameters.length) = some 0 := by decide +kernel
theorem hy_X8_save : plainName yX8_save.cls = true := by decide +kernel
theorem hv_X8_restore : yX8_restore.cls = RX8 ∧ yX8_restore.cls ≠ "java/lang/invoke/MethodHandle" ∧ yX8_restore.cls ≠ "java/lang/invoke/VarHandle" ∧ (parseMethodDescriptor yX8_restore.desc).map (fun d => d.parameters.length) = some 0 := by decide +kernel
theorem hy_X8_restore : plainName yX8_restore.cls = true := by decide +kernel
theorem hv_X8_putAside : yX8_putAside.cls = RX8 ∧ yX8_putAside.cls ≠ "java/lang/invoke/MethodHandle" ∧ yX8_putAside.cls ≠ "java/lang/invoke/VarHandle" ∧ (parseMethodDescriptor yX8_putAside.desc).map (fun d => d.parameters.length) = some 0 := by decide +kernel
theorem hy_X8_putAside : plainName yX8_putAside.cls = true := by decide +kernel
theorem hv_X8_takeBack : yX8_takeBack.cls = RX8 ∧ yX8_takeBack.cls ≠ "java/lang/invoke/MethodHandle" ∧ yX8_takeBack.cls ≠ "java/lang/invoke/VarHandle" ∧ (parseMethodDescriptor yX8_takeBack.desc).map (fun d => d.parameters.length) = some 0 := by decide +kernel
theorem hy_X8_takeBack : plainName yX8_takeBack.cls = true := by decide +kernel
theorem hv_X8_isIn : yX8_isIn.cls = RX8 ∧ yX8_isIn.cls ≠ "java/lang/invoke/MethodHandle" ∧ yX8_isIn.cls ≠ "java/lang/invoke/VarHandle" ∧ (parseMethodDescriptor yX8_isIn.desc).map (fun d => d.parameters.length) = some 2 := by decide +kernel
theorem hy_X8_isIn : plainName yX8_isIn.cls = true := by decide +kernel
theorem hv_X8_members : yX8_members.cls = RX8 ∧ yX8_members.cls ≠ "java/lang/invoke/MethodHandle" ∧ yX8_members.cls ≠ "java/lang/invoke/VarHandle" ∧ (parseMethodDescriptor yX8_members.desc).map (fun d => d.parameters.length) = some 1 := by decide +kernel
theorem hy_X8_members : plainName yX8_members.cls = true := by decide +kernel
theorem hv_X8_recordsOf : yX8_recordsOf.cls = RX8 ∧ yX8_recordsOf.cls ≠ "java/lang/invoke/MethodHandle" ∧ yX8_recordsOf.cls ≠ "java/lang/invoke/VarHandle" ∧ (parseMethodDescriptor yX8_recordsOf.desc).map (fun d => d.parameters.length) = some 1 := by decide +kernel
theorem hy_X8_recordsOf : plainName yX8_recordsOf.cls = true := by decide +kernel
theorem hv_X8_memberAt : yX8_memberAt.cls = RX8 ∧ yX8_memberAt.cls ≠ "java/lang/invoke/MethodHandle" ∧ yX8_memberAt.cls ≠ "java/lang/invoke/VarHandle" ∧ (parseMethodDescriptor yX8_memberAt.desc).map (fun d => d.parameters.length) = some 2 := by decide +kernel
theorem hy_X8_memberAt : plainName yX8_memberAt.cls = true := by decide +kernel
theorem hv_X8_turnMembers : yX8_turnMembers.cls = RX8 ∧ yX8_turnMembers.cls ≠ "java/lang/invoke/MethodHandle" ∧ yX8_turnMembers.cls ≠ "java/lang/invoke/VarHandle" ∧ (parseMethodDescriptor yX8_turnMembers.desc).map (fun d => d.parameters.length) = some 2 := by decide +kernel
theorem hy_X8_turnMembers : plainName yX8_turnMembers.cls = true := by decide +kernel
theorem hv_X8_queuedAt : yX8_queuedAt.cls = RX8 ∧ yX8_queuedAt.cls ≠ "java/lang/invoke/MethodHandle" ∧ yX8_queuedAt.cls ≠ "java/lang/invoke/VarHandle" ∧ (parseMethodDescriptor yX8_queuedAt.desc).map (fun d => d.parameters.length) = some 1 := by decide +kernel
theorem hy_X8_queuedAt : plainName yX8_queuedAt.cls = true := by decide +kernel
theorem hv_X8_goOn : yX8_goOn.cls = RX8 ∧ yX8_goOn.cls ≠ "java/lang/invoke/MethodHandle" ∧ yX8_goOn.cls ≠ "java/lang/invoke/VarHandle" ∧ (parseMethodDescriptor yX8_goOn.desc).map (fun d => d.parameters.length) = some 0 := by decide +kernel
theorem hy_X8_goOn : plainName yX8_goOn.cls = true := by decide +kernel
theorem hv_X8_close : yX8_close.cls = RX8 ∧ yX8_close.cls ≠ "java/lang/invoke/MethodHandle" ∧ yX8_close.cls ≠ "java/lang/invoke/VarHandle" ∧ (parseMethodDescriptor yX8_close.desc).map (fun d => d.parameters.length) = some 1 := by decide +kernel
theorem hy_X8_close : plainName yX8_close.cls = true := by decide +kernel
theorem hv_X8_isLate : yX8_isLate.cls = RX8 ∧ yX8_isLate.cls ≠ "java/lang/invoke/MethodHandle" ∧ yX8_isLate.cls ≠ "java/lang/invoke/VarHandle" ∧ (parseMethodDescriptor yX8_isLate.desc).map (fun d => d.parameters.length) = some 0 := by decide +kernel
theorem hy_X8_isLate : plainName yX8_isLate.cls = true := by decide +kernel
theorem hv_X8_begin : yX8_begin.cls = RX8 ∧ yX8_begin.cls ≠ "java/lang/invoke/MethodHandle" ∧ yX8_begin.cls ≠ "java/lang/invoke/VarHandle" ∧ (parseMethodDescriptor yX8_begin.desc).map (fun d => d.parameters.length) = some 0 := by decide +kernel
theorem hy_X8_begin : plainName yX8_begin.cls = true := by decide +kernel
theorem hv_X8_answerAll : yX8_answerAll.cls = RX8 ∧ yX8_answerAll.cls ≠ "java/lang/invoke/MethodHandle" ∧ yX8_answerAll.cls ≠ "java/lang/invoke/VarHandle" ∧ (parseMethodDescriptor yX8_answerAll.desc).map (fun d => d.parameters.length) = some 1 := by decide +kernel
theorem hy_X8_answerAll : plainName yX8_answerAll.cls = true := by decide +kernel
theorem hv_X8_tickOnce : yX8_tickOnce.cls = RX8 ∧ yX8_tickOnce.cls ≠ "java/lang/invoke/MethodHandle" ∧ yX8_tickOnce.cls ≠ "java/lang/invoke/VarHandle" ∧ (parseMethodDescriptor yX8_tickOnce.desc).map (fun d => d.parameters.length) = some 0 := by decide +kernel
theorem hy_X8_tickOnce : plainName yX8_tickOnce.cls = true := by decide +kernel
theorem hv_X8_ticks : yX8_ticks.cls = RX8 ∧ yX8_ticks.cls ≠ "java/lang/invoke/MethodHandle" ∧ yX8_ticks.cls ≠ "java/lang/invoke/VarHandle" ∧ (parseMethodDescriptor yX8_ticks.desc).map (fun d => d.parameters.length) = some 1 := by decide +kernel
theorem hy_X8_ticks : plainName yX8_ticks.cls = true := by decide +kernel
theorem hv_X8_openOf : yX8_openOf.cls = RX8 ∧ yX8_openOf.cls ≠ "java/lang/invoke/MethodHandle" ∧ yX8_openOf.cls ≠ "java/lang/invoke/VarHandle" ∧ (parseMethodDescriptor yX8_openOf.desc).map (fun d => d.parameters.length) = some 1 := by decide +kernel
theorem hy_X8_openOf : plainName yX8_openOf.cls = true := by decide +kernel
theorem hv_X8_takeOut : yX8_takeOut.cls = RX8 ∧ yX8_takeOut.cls ≠ "java/lang/invoke/MethodHandle" ∧ yX8_takeOut.cls ≠ "java/lang/invoke/VarHandle" ∧ (parseMethodDescriptor yX8_takeOut.desc).map (fun d => d.parameters.length) = some 2 := by decide +kernel
theorem hy_X8_takeOut : plainName yX8_takeOut.cls = true := by decide +kernel
theorem hv_X8_whyNotSubmitted : yX8_whyNotSubmitted.cls = RX8 ∧ yX8_whyNotSubmitted.cls ≠ "java/lang/invoke/MethodHandle" ∧ yX8_whyNotSubmitted.cls ≠ "java/lang/invoke/VarHandle" ∧ (parseMethodDescriptor yX8_whyNotSubmitted.desc).map (fun d => d.parameters.length) = some 2 := by decide +kernel
theorem hy_X8_whyNotSubmitted : plainName yX8_whyNotSubmitted.cls = true := by decide +kernel
theorem hv_X8_doesSubmit : yX8_doesSubmit.cls = RX8 ∧ yX8_doesSubmit.cls ≠ "java/lang/invoke/MethodHandle" ∧ yX8_doesSubmit.cls ≠ "java/lang/invoke/VarHandle" ∧ (parseMethodDescriptor yX8_doesSubmit.desc).map (fun d => d.parameters.length) = some 3 := by decide +kernel
theorem hy_X8_doesSubmit : plainName yX8_doesSubmit.cls = true := by decide +kernel
theorem hv_X8_doesFail : yX8_doesFail.cls = RX8 ∧ yX8_doesFail.cls ≠ "java/lang/invoke/MethodHandle" ∧ yX8_doesFail.cls ≠ "java/lang/invoke/VarHandle" ∧ (parseMethodDescriptor yX8_doesFail.desc).map (fun d => d.parameters.length) = some 1 := by decide +kernel
theorem hy_X8_doesFail : plainName yX8_doesFail.cls = true := by decide +kernel
theorem hv_X8_canWithdraw : yX8_canWithdraw.cls = RX8 ∧ yX8_canWithdraw.cls ≠ "java/lang/invoke/MethodHandle" ∧ yX8_canWithdraw.cls ≠ "java/lang/invoke/VarHandle" ∧ (parseMethodDescriptor yX8_canWithdraw.desc).map (fun d => d.parameters.length) = some 1 := by decide +kernel
theorem hy_X8_canWithdraw : plainName yX8_canWithdraw.cls = true := by decide +kernel
theorem hv_X8_doesWithdraw : yX8_doesWithdraw.cls = RX8 ∧ yX8_doesWithdraw.cls ≠ "java/lang/invoke/MethodHandle" ∧ yX8_doesWithdraw.cls ≠ "java/lang/invoke/VarHandle" ∧ (parseMethodDescriptor yX8_doesWithdraw.desc).map (fun d => d.parameters.length) = some 1 := by decide +kernel
theorem hy_X8_doesWithdraw : plainName yX8_doesWithdraw.cls = true := by decide +kernel
theorem hv_X8_doesCrash : yX8_doesCrash.cls = RX8 ∧ yX8_doesCrash.cls ≠ "java/lang/invoke/MethodHandle" ∧ yX8_doesCrash.cls ≠ "java/lang/invoke/VarHandle" ∧ (parseMethodDescriptor yX8_doesCrash.desc).map (fun d => d.parameters.length) = some 0 := by decide +kernel
theorem hy_X8_doesCrash : plainName yX8_doesCrash.cls = true := by decide +kernel
theorem hv_X8_submit : yX8_submit.cls = RX8 ∧ yX8_submit.cls ≠ "java/lang/invoke/MethodHandle" ∧ yX8_submit.cls ≠ "java/lang/invoke/VarHandle" ∧ (parseMethodDescriptor yX8_submit.desc).map (fun d => d.parameters.length) = some 3 := by decide +kernel
theorem hy_X8_submit : plainName yX8_submit.cls = true := by decide +kernel
theorem hv_X8_fail : yX8_fail.cls = RX8 ∧ yX8_fail.cls ≠ "java/lang/invoke/MethodHandle" ∧ yX8_fail.cls ≠ "java/lang/invoke/VarHandle" ∧ (parseMethodDescriptor yX8_fail.desc).map (fun d => d.parameters.length) = some 1 := by decide +kernel
theorem hy_X8_fail : plainName yX8_fail.cls = true := by decide +kernel
theorem hv_X8_withdraw : yX8_withdraw.cls = RX8 ∧ yX8_withdraw.cls ≠ "java/lang/invoke/MethodHandle" ∧ yX8_withdraw.cls ≠ "java/lang/invoke/VarHandle" ∧ (parseMethodDescriptor yX8_withdraw.desc).map (fun d => d.parameters.length) = some 1 := by decide +kernel
theorem hy_X8_withdraw : plainName yX8_withdraw.cls = true := by decide +kernel
theorem hv_X8_crash : yX8_crash.cls = RX8 ∧ yX8_crash.cls ≠ "java/lang/invoke/MethodHandle" ∧ yX8_crash.cls ≠ "java/lang/invoke/VarHandle" ∧ (parseMethodDescriptor yX8_crash.desc).map (fun d => d.parameters.length) = some 0 := by decide +kernel
theorem hy_X8_crash : plainName yX8_crash.cls = true := by decide +kernel
theorem hv_X8_tick : yX8_tick.cls = RX8 ∧ yX8_tick.cls ≠ "java/lang/invoke/MethodHandle" ∧ yX8_tick.cls ≠ "java/lang/invoke/VarHandle" ∧ (parseMethodDescriptor yX8_tick.desc).map (fun d => d.parameters.length) = some 1 := by decide +kernel
theorem hy_X8_tick : plainName yX8_tick.cls = true := by decide +kernel
theorem hv_X8_leastOf : yX8_leastOf.cls ≠ "java/lang/invoke/MethodHandle" ∧ yX8_leastOf.cls ≠ "java/lang/invoke/VarHandle" ∧ (parseMethodDescriptor yX8_leastOf.desc).map (fun d => d.parameters.length) = some 1 := by decide +kernel
theorem hy_X8_leastOf : plainName yX8_leastOf.cls = true := by decide +kernel
theorem hv_X8_mostOf : yX8_mostOf.cls ≠ "java/lang/invoke/MethodHandle" ∧ yX8_mostOf.cls ≠ "java/lang/invoke/VarHandle" ∧ (parseMethodDescriptor yX8_mostOf.desc).map (fun d => d.parameters.length) = some 1 := by decide +kernel
theorem hy_X8_mostOf : plainName yX8_mostOf.cls = true := by decide +kernel
theorem hv_X8_set : yX8_set.cls = RX8 ∧ yX8_set.cls ≠ "java/lang/invoke/MethodHandle" ∧ yX8_set.cls ≠ "java/lang/invoke/VarHandle" ∧ (parseMethodDescriptor yX8_set.desc).map (fun d => d.parameters.length) = some 2 := by decide +kernel
theorem hy_X8_set : plainName yX8_set.cls = true := by decide +kernel
theorem hv_X8_append : yX8_append.cls = RX8 ∧ yX8_append.cls ≠ "java/lang/invoke/MethodHandle" ∧ yX8_append.cls ≠ "java/lang/invoke/VarHandle" ∧ (parseMethodDescriptor yX8_append.desc).map (fun d => d.parameters.length) = some 1 := by decide +kernel
theorem hy_X8_append : plainName yX8_append.cls = true := by decide +kernel
theorem hv_X8_clearText : yX8_clearText.cls = RX8 ∧ yX8_clearText.cls ≠ "java/lang/invoke/MethodHandle" ∧ yX8_clearText.cls ≠ "java/lang/invoke/VarHandle" ∧ (parseMethodDescriptor yX8_clearText.desc).map (fun d => d.parameters.length) = some 0 := by decide +kernel
theorem hy_X8_clearText : plainName yX8_clearText.cls = true := by decide +kernel
theorem hv_X8_nextCharacter : yX8_nextCharacter.cls = RX8 ∧ yX8_nextCharacter.cls ≠ "java/lang/invoke/MethodHandle" ∧ yX8_nextCharacter.cls ≠ "java/lang/invoke/VarHandle" ∧ (parseMethodDescriptor yX8_nextCharacter.desc).map (fun d => d.parameters.length) = some 0 := by decide +kernel
theorem hy_X8_nextCharacter : plainName yX8_nextCharacter.cls = true := by decide +kernel
theorem hv_X8_takes : yX8_takes.cls = RX8 ∧ yX8_takes.cls ≠ "java/lang/invoke/MethodHandle" ∧ yX8_takes.cls ≠ "java/lang/invoke/VarHandle" ∧ (parseMethodDescriptor yX8_takes.desc).map (fun d => d.parameters.length) = some 1 := by decide +kernel
theorem hy_X8_takes : plainName yX8_takes.cls = true := by decide +kernel
theorem hv_X8_readsNumber : yX8_readsNumber.cls = RX8 ∧ yX8_readsNumber.cls ≠ "java/lang/invoke/MethodHandle" ∧ yX8_readsNumber.cls ≠ "java/lang/invoke/VarHandle" ∧ (parseMethodDescriptor yX8_readsNumber.desc).map (fun d => d.parameters.length) = some 2 := by decide +kernel
theorem hy_X8_readsNumber : plainName yX8_readsNumber.cls = true := by decide +kernel
theorem hv_X8_readsSubmit : yX8_readsSubmit.cls = RX8 ∧ yX8_readsSubmit.cls ≠ "java/lang/invoke/MethodHandle" ∧ yX8_readsSubmit.cls ≠ "java/lang/invoke/VarHandle" ∧ (parseMethodDescriptor yX8_readsSubmit.desc).map (fun d => d.parameters.length) = some 0 := by decide +kernel
theorem hy_X8_readsSubmit : plainName yX8_readsSubmit.cls = true := by decide +kernel
theorem hv_X8_readsOrder : yX8_readsOrder.cls = RX8 ∧ yX8_readsOrder.cls ≠ "java/lang/invoke/MethodHandle" ∧ yX8_readsOrder.cls ≠ "java/lang/invoke/VarHandle" ∧ (parseMethodDescriptor yX8_readsOrder.desc).map (fun d => d.parameters.length) = some 0 := by decide +kernel
theorem hy_X8_readsOrder : plainName yX8_readsOrder.cls = true := by decide +kernel
theorem hv_X8_findFault : yX8_findFault.cls = RX8 ∧ yX8_findFault.cls ≠ "java/lang/invoke/MethodHandle" ∧ yX8_findFault.cls ≠ "java/lang/invoke/VarHandle" ∧ (parseMethodDescriptor yX8_findFault.desc).map (fun d => d.parameters.length) = some 0 := by decide +kernel
theorem hy_X8_findFault : plainName yX8_findFault.cls = true := by decide +kernel
theorem hv_X8_fault : yX8_fault.cls = RX8 ∧ yX8_fault.cls ≠ "java/lang/invoke/MethodHandle" ∧ yX8_fault.cls ≠ "java/lang/invoke/VarHandle" ∧ (parseMethodDescriptor yX8_fault.desc).map (fun d => d.parameters.length) = some 0 := by decide +kernel
theorem hy_X8_fault : plainName yX8_fault.cls = true := by decide +kernel
theorem hv_X8_doesOrder : yX8_doesOrder.cls = RX8 ∧ yX8_doesOrder.cls ≠ "java/lang/invoke/MethodHandle" ∧ yX8_doesOrder.cls ≠ "java/lang/invoke/VarHandle" ∧ (parseMethodDescriptor yX8_doesOrder.desc).map (fun d => d.parameters.length) = some 0 := by decide +kernel
theorem hy_X8_doesOrder : plainName yX8_doesOrder.cls = true := by decide +kernel
theorem hv_X8_run : yX8_run.cls = RX8 ∧ yX8_run.cls ≠ "java/lang/invoke/MethodHandle" ∧ yX8_run.cls ≠ "java/lang/invoke/VarHandle" ∧ (parseMethodDescriptor yX8_run.desc).map (fun d => d.parameters.length) = some 0 := by decide +kernel
theorem hy_X8_run : plainName yX8_run.cls = true := by decide +kernel
theorem hv_X8_commit : yX8_commit.cls = RX8 ∧ yX8_commit.cls ≠ "java/lang/invoke/MethodHandle" ∧ yX8_commit.cls ≠ "java/lang/invoke/VarHandle" ∧ (parseMethodDescriptor yX8_commit.desc).map (fun d => d.parameters.length) = some 2 := by decide +kernel
theorem hy_X8_commit : plainName yX8_commit.cls = true := by decide +kernel
theorem hv_X8_tellsGroup : yX8_tellsGroup.cls = RX8 ∧ yX8_tellsGroup.cls ≠ "java/lang/invoke/MethodHandle" ∧ yX8_tellsGroup.cls ≠ "java/lang/invoke/VarHandle" ∧ (parseMethodDescriptor yX8_tellsGroup.desc).map (fun d => d.parameters.length) = some 2 := by decide +kernel
theorem hy_X8_tellsGroup : plainName yX8_tellsGroup.cls = true := by decide +kernel
theorem hv_X8_group : yX8_group.cls = RX8 ∧ yX8_group.cls ≠ "java/lang/invoke/MethodHandle" ∧ yX8_group.cls ≠ "java/lang/invoke/VarHandle" ∧ (parseMethodDescriptor yX8_group.desc).map (fun d => d.parameters.length) = some 2 := by decide +kernel
theorem hy_X8_group : plainName yX8_group.cls = true := by decide +kernel
theorem hv_X8_member : yX8_member.cls = RX8 ∧ yX8_member.cls ≠ "java/lang/invoke/MethodHandle" ∧ yX8_member.cls ≠ "java/lang/invoke/VarHandle" ∧ (parseMethodDescriptor yX8_member.desc).map (fun d => d.parameters.length) = some 2 := by decide +kernel
theorem hy_X8_member : plainName yX8_member.cls = true := by decide +kernel
theorem hv_X8_open : yX8_open.cls = RX8 ∧ yX8_open.cls ≠ "java/lang/invoke/MethodHandle" ∧ yX8_open.cls ≠ "java/lang/invoke/VarHandle" ∧ (parseMethodDescriptor yX8_open.desc).map (fun d => d.parameters.length) = some 1 := by decide +kernel
theorem hy_X8_open : plainName yX8_open.cls = true := by decide +kernel
theorem hv_X8_queued : yX8_queued.cls = RX8 ∧ yX8_queued.cls ≠ "java/lang/invoke/MethodHandle" ∧ yX8_queued.cls ≠ "java/lang/invoke/VarHandle" ∧ (parseMethodDescriptor yX8_queued.desc).map (fun d => d.parameters.length) = some 1 := by decide +kernel
theorem hy_X8_queued : plainName yX8_queued.cls = true := by decide +kernel
theorem hv_X8_queuedMany : yX8_queuedMany.cls = RX8 ∧ yX8_queuedMany.cls ≠ "java/lang/invoke/MethodHandle" ∧ yX8_queuedMany.cls ≠ "java/lang/invoke/VarHandle" ∧ (parseMethodDescriptor yX8_queuedMany.desc).map (fun d => d.parameters.length) = some 0 := by decide +kernel
theorem hy_X8_queuedMany : plainName yX8_queuedMany.cls = true := by decide +kernel
theorem hv_X8_busyMany : yX8_busyMany.cls = RX8 ∧ yX8_busyMany.cls ≠ "java/lang/invoke/MethodHandle" ∧ yX8_busyMany.cls ≠ "java/lang/invoke/VarHandle" ∧ (parseMethodDescriptor yX8_busyMany.desc).map (fun d => d.parameters.length) = some 0 := by decide +kernel
theorem hy_X8_busyMany : plainName yX8_busyMany.cls = true := by decide +kernel
theorem hv_X8_count : yX8_count.cls = RX8 ∧ yX8_count.cls ≠ "java/lang/invoke/MethodHandle" ∧ yX8_count.cls ≠ "java/lang/invoke/VarHandle" ∧ (parseMethodDescriptor yX8_count.desc).map (fun d => d.parameters.length) = some 1 := by decide +kernel
theorem hy_X8_count : plainName yX8_count.cls = true := by decide +kernel
theorem hv_X8_total : yX8_total.cls = RX8 ∧ yX8_total.cls ≠ "java/lang/invoke/MethodHandle" ∧ yX8_total.cls ≠ "java/lang/invoke/VarHandle" ∧ (parseMethodDescriptor yX8_total.desc).map (fun d => d.parameters.length) = some 1 := by decide +kernel
theorem hy_X8_total : plainName yX8_total.cls = true := by decide +kernel
theorem hv_X8_ticksFor : yX8_ticksFor.cls = RX8 ∧ yX8_ticksFor.cls ≠ "java/lang/invoke/MethodHandle" ∧ yX8_ticksFor.cls ≠ "java/lang/invoke/VarHandle" ∧ (parseMethodDescriptor yX8_ticksFor.desc).map (fun d => d.parameters.length) = some 1 := by decide +kernel
theorem hy_X8_ticksFor : plainName yX8_ticksFor.cls = true := by decide +kernel
theorem hv_X8_answeredIn : yX8_answeredIn.cls = RX8 ∧ yX8_answeredIn.cls ≠ "java/lang/invoke/MethodHandle" ∧ yX8_answeredIn.cls ≠ "java/lang/invoke/VarHandle" ∧ (parseMethodDescriptor yX8_answeredIn.desc).map (fun d => d.parameters.length) = some 1 := by decide +kernel
theorem hy_X8_answeredIn : plainName yX8_answeredIn.cls = true := by decide +kernel
theorem hv_X8_lowestFree : yX8_lowestFree.cls = RX8 ∧ yX8_lowestFree.cls ≠ "java/lang/invoke/MethodHandle" ∧ yX8_lowestFree.cls ≠ "java/lang/invoke/VarHandle" ∧ (parseMethodDescriptor yX8_lowestFree.desc).map (fun d => d.parameters.length) = some 0 := by decide +kernel
theorem hy_X8_lowestFree : plainName yX8_lowestFree.cls = true := by decide +kernel
theorem hv_X8_ifSubmitted : yX8_ifSubmitted.cls = RX8 ∧ yX8_ifSubmitted.cls ≠ "java/lang/invoke/MethodHandle" ∧ yX8_ifSubmitted.cls ≠ "java/lang/invoke/VarHandle" ∧ (parseMethodDescriptor yX8_ifSubmitted.desc).map (fun d => d.parameters.length) = some 2 := by decide +kernel
theorem hy_X8_ifSubmitted : plainName yX8_ifSubmitted.cls = true := by decide +kernel
theorem hv_X8_idleIn : yX8_idleIn.cls = RX8 ∧ yX8_idleIn.cls ≠ "java/lang/invoke/MethodHandle" ∧ yX8_idleIn.cls ≠ "java/lang/invoke/VarHandle" ∧ (parseMethodDescriptor yX8_idleIn.desc).map (fun d => d.parameters.length) = some 0 := by decide +kernel
theorem hy_X8_idleIn : plainName yX8_idleIn.cls = true := by decide +kernel
theorem hv_X8_mean : yX8_mean.cls = RX8 ∧ yX8_mean.cls ≠ "java/lang/invoke/MethodHandle" ∧ yX8_mean.cls ≠ "java/lang/invoke/VarHandle" ∧ (parseMethodDescriptor yX8_mean.desc).map (fun d => d.parameters.length) = some 0 := by decide +kernel
theorem hy_X8_mean : plainName yX8_mean.cls = true := by decide +kernel
theorem hy_L_law : plainName yL_law.cls = true := by decide +kernel
end
section
theorem dX0_init_0 : decode cX0_init 0 = .ok (.aload_n 0, 1) := by decide +kernel
theorem dX0_init_1 : decode cX0_init 1 = .ok (.invokespecial 3, 3) := by decide +kernel
theorem dX0_init_4 : decode cX0_init 4 = .ok (.aload_n 0, 1) := by decide +kernel
theorem dX0_init_5 : decode cX0_init 5 = .ok (.sipush 150, 3) := by decide +kernel
theorem dX0_init_8 : decode cX0_init 8 = .ok (.newarray .int, 2) := by decide +kernel
theorem dX0_init_10 : decode cX0_init 10 = .ok (.putfield 11, 3) := by decide +kernel
theorem dX0_init_13 : decode cX0_init 13 = .ok (.aload_n 0, 1) := by decide +kernel
theorem dX0_init_14 : decode cX0_init 14 = .ok (.sipush 150, 3) := by decide +kernel
theorem dX0_init_17 : decode cX0_init 17 = .ok (.newarray .int, 2) := by decide +kernel
theorem dX0_init_19 : decode cX0_init 19 = .ok (.putfield 15, 3) := by decide +kernel
theorem dX0_init_22 : decode cX0_init 22 = .ok (.aload_n 0, 1) := by decide +kernel
theorem dX0_init_23 : decode cX0_init 23 = .ok (.sipush 150, 3) := by decide +kernel
theorem dX0_init_26 : decode cX0_init 26 = .ok (.newarray .boolean, 2) := by decide +kernel
theorem dX0_init_28 : decode cX0_init 28 = .ok (.putfield 18, 3) := by decide +kernel
theorem dX0_init_31 : decode cX0_init 31 = .ok (.aload_n 0, 1) := by decide +kernel
theorem dX0_init_32 : decode cX0_init 32 = .ok (.sipush 150, 3) := by decide +kernel
theorem dX0_init_35 : decode cX0_init 35 = .ok (.newarray .int, 2) := by decide +kernel
theorem dX0_init_37 : decode cX0_init 37 = .ok (.putfield 22, 3) := by decide +kernel
theorem dX0_init_40 : decode cX0_init 40 = .ok (.aload_n 0, 1) := by decide +kernel
theorem dX0_init_41 : decode cX0_init 41 = .ok (.sipush 150, 3) := by decide +kernel
theorem dX0_init_44 : decode cX0_init 44 = .ok (.newarray .int, 2) := by decide +kernel
theorem dX0_init_46 : decode cX0_init 46 = .ok (.putfield 25, 3) := by decide +kernel
theorem dX0_init_49 : decode cX0_init 49 = .ok (.aload_n 0, 1) := by decide +kernel
theorem dX0_init_50 : decode cX0_init 50 = .ok (.sipush 150, 3) := by decide +kernel
theorem dX0_init_53 : decode cX0_init 53 = .ok (.newarray .int, 2) := by decide +kernel
theorem dX0_init_55 : decode cX0_init 55 = .ok (.putfield 28, 3) := by decide +kernel
theorem dX0_init_58 : decode cX0_init 58 = .ok (.aload_n 0, 1) := by decide +kernel
theorem dX0_init_59 : decode cX0_init 59 = .ok (.sipush 150, 3) := by decide +kernel
theorem dX0_init_62 : decode cX0_init 62 = .ok (.newarray .int, 2) := by decide +kernel
theorem dX0_init_64 : decode cX0_init 64 = .ok (.putfield 31, 3) := by decide +kernel
theorem dX0_init_67 : decode cX0_init 67 = .ok (.aload_n 0, 1) := by decide +kernel
theorem dX0_init_68 : decode cX0_init 68 = .ok (.sipush 150, 3) := by decide +kernel
theorem dX0_init_71 : decode cX0_init 71 = .ok (.newarray .boolean, 2) := by decide +kernel
theorem dX0_init_73 : decode cX0_init 73 = .ok (.putfield 34, 3) := by decide +kernel
theorem dX0_init_76 : decode cX0_init 76 = .ok (.return_, 1) := by decide +kernel
theorem dX0_copyFrom_0 : decode cX0_copyFrom 0 = .ok (.aload_n 1, 1) := by decide +kernel
theorem dX0_copyFrom_1 : decode cX0_copyFrom 1 = .ok (.getfield 11, 3) := by decide +kernel
theorem dX0_copyFrom_4 : decode cX0_copyFrom 4 = .ok (.iconst 0, 1) := by decide +kernel
theorem dX0_copyFrom_5 : decode cX0_copyFrom 5 = .ok (.aload_n 0, 1) := by decide +kernel
theorem dX0_copyFrom_6 : decode cX0_copyFrom 6 = .ok (.getfield 11, 3) := by decide +kernel
theorem dX0_copyFrom_9 : decode cX0_copyFrom 9 = .ok (.iconst 0, 1) := by decide +kernel
theorem dX0_copyFrom_10 : decode cX0_copyFrom 10 = .ok (.sipush 150, 3) := by decide +kernel
theorem dX0_copyFrom_13 : decode cX0_copyFrom 13 = .ok (.invokestatic 37, 3) := by decide +kernel
theorem dX0_copyFrom_16 : decode cX0_copyFrom 16 = .ok (.aload_n 1, 1) := by decide +kernel
theorem dX0_copyFrom_17 : decode cX0_copyFrom 17 = .ok (.getfield 15, 3) := by decide +kernel
theorem dX0_copyFrom_20 : decode cX0_copyFrom 20 = .ok (.iconst 0, 1) := by decide +kernel
theorem dX0_copyFrom_21 : decode cX0_copyFrom 21 = .ok (.aload_n 0, 1) := by decide +kernel
theorem dX0_copyFrom_22 : decode cX0_copyFrom 22 = .ok (.getfield 15, 3) := by decide +kernel
theorem dX0_copyFrom_25 : decode cX0_copyFrom 25 = .ok (.iconst 0, 1) := by decide +kernel
theorem dX0_copyFrom_26 : decode cX0_copyFrom 26 = .ok (.sipush 150, 3) := by decide +kernel
theorem dX0_copyFrom_29 : decode cX0_copyFrom 29 = .ok (.invokestatic 37, 3) := by decide +kernel
theorem dX0_copyFrom_32 : decode cX0_copyFrom 32 = .ok (.aload_n 1, 1) := by decide +kernel
theorem dX0_copyFrom_33 : decode cX0_copyFrom 33 = .ok (.getfield 18, 3) := by decide +kernel
theorem dX0_copyFrom_36 : decode cX0_copyFrom 36 = .ok (.iconst 0, 1) := by decide +kernel
theorem dX0_copyFrom_37 : decode cX0_copyFrom 37 = .ok (.aload_n 0, 1) := by decide +kernel
theorem dX0_copyFrom_38 : decode cX0_copyFrom 38 = .ok (.getfield 18, 3) := by decide +kernel
theorem dX0_copyFrom_41 : decode cX0_copyFrom 41 = .ok (.iconst 0, 1) := by decide +kernel
theorem dX0_copyFrom_42 : decode cX0_copyFrom 42 = .ok (.sipush 150, 3) := by decide +kernel
theorem dX0_copyFrom_45 : decode cX0_copyFrom 45 = .ok (.invokestatic 37, 3) := by decide +kernel
theorem dX0_copyFrom_48 : decode cX0_copyFrom 48 = .ok (.aload_n 1, 1) := by decide +kernel
theorem dX0_copyFrom_49 : decode cX0_copyFrom 49 = .ok (.getfield 22, 3) := by decide +kernel
theorem dX0_copyFrom_52 : decode cX0_copyFrom 52 = .ok (.iconst 0, 1) := by decide +kernel
theorem dX0_copyFrom_53 : decode cX0_copyFrom 53 = .ok (.aload_n 0, 1) := by decide +kernel
theorem dX0_copyFrom_54 : decode cX0_copyFrom 54 = .ok (.getfield 22, 3) := by decide +kernel
theorem dX0_copyFrom_57 : decode cX0_copyFrom 57 = .ok (.iconst 0, 1) := by decide +kernel
theorem dX0_copyFrom_58 : decode cX0_copyFrom 58 = .ok (.sipush 150, 3) := by decide +kernel
theorem dX0_copyFrom_61 : decode cX0_copyFrom 61 = .ok (.invokestatic 37, 3) := by decide +kernel
theorem dX0_copyFrom_64 : decode cX0_copyFrom 64 = .ok (.aload_n 1, 1) := by decide +kernel
theorem dX0_copyFrom_65 : decode cX0_copyFrom 65 = .ok (.getfield 25, 3) := by decide +kernel
theorem dX0_copyFrom_68 : decode cX0_copyFrom 68 = .ok (.iconst 0, 1) := by decide +kernel
theorem dX0_copyFrom_69 : decode cX0_copyFrom 69 = .ok (.aload_n 0, 1) := by decide +kernel
theorem dX0_copyFrom_70 : decode cX0_copyFrom 70 = .ok (.getfield 25, 3) := by decide +kernel
theorem dX0_copyFrom_73 : decode cX0_copyFrom 73 = .ok (.iconst 0, 1) := by decide +kernel
theorem dX0_copyFrom_74 : decode cX0_copyFrom 74 = .ok (.sipush 150, 3) := by decide +kernel
theorem dX0_copyFrom_77 : decode cX0_copyFrom 77 = .ok (.invokestatic 37, 3) := by decide +kernel
theorem dX0_copyFrom_80 : decode cX0_copyFrom 80 = .ok (.aload_n 1, 1) := by decide +kernel
theorem dX0_copyFrom_81 : decode cX0_copyFrom 81 = .ok (.getfield 28, 3) := by decide +kernel
theorem dX0_copyFrom_84 : decode cX0_copyFrom 84 = .ok (.iconst 0, 1) := by decide +kernel
theorem dX0_copyFrom_85 : decode cX0_copyFrom 85 = .ok (.aload_n 0, 1) := by decide +kernel
theorem dX0_copyFrom_86 : decode cX0_copyFrom 86 = .ok (.getfield 28, 3) := by decide +kernel
theorem dX0_copyFrom_89 : decode cX0_copyFrom 89 = .ok (.iconst 0, 1) := by decide +kernel
theorem dX0_copyFrom_90 : decode cX0_copyFrom 90 = .ok (.sipush 150, 3) := by decide +kernel
theorem dX0_copyFrom_93 : decode cX0_copyFrom 93 = .ok (.invokestatic 37, 3) := by decide +kernel
theorem dX0_copyFrom_96 : decode cX0_copyFrom 96 = .ok (.aload_n 1, 1) := by decide +kernel
theorem dX0_copyFrom_97 : decode cX0_copyFrom 97 = .ok (.getfield 31, 3) := by decide +kernel
theorem dX0_copyFrom_100 : decode cX0_copyFrom 100 = .ok (.iconst 0, 1) := by decide +kernel
theorem dX0_copyFrom_101 : decode cX0_copyFrom 101 = .ok (.aload_n 0, 1) := by decide +kernel
theorem dX0_copyFrom_102 : decode cX0_copyFrom 102 = .ok (.getfield 31, 3) := by decide +kernel
theorem dX0_copyFrom_105 : decode cX0_copyFrom 105 = .ok (.iconst 0, 1) := by decide +kernel
theorem dX0_copyFrom_106 : decode cX0_copyFrom 106 = .ok (.sipush 150, 3) := by decide +kernel
theorem dX0_copyFrom_109 : decode cX0_copyFrom 109 = .ok (.invokestatic 37, 3) := by decide +kernel
theorem dX0_copyFrom_112 : decode cX0_copyFrom 112 = .ok (.aload_n 1, 1) := by decide +kernel
theorem dX0_copyFrom_113 : decode cX0_copyFrom 113 = .ok (.getfield 34, 3) := by decide +kernel
theorem dX0_copyFrom_116 : decode cX0_copyFrom 116 = .ok (.iconst 0, 1) := by decide +kernel
theorem dX0_copyFrom_117 : decode cX0_copyFrom 117 = .ok (.aload_n 0, 1) := by decide +kernel
theorem dX0_copyFrom_118 : decode cX0_copyFrom 118 = .ok (.getfield 34, 3) := by decide +kernel
theorem dX0_copyFrom_121 : decode cX0_copyFrom 121 = .ok (.iconst 0, 1) := by decide +kernel
theorem dX0_copyFrom_122 : decode cX0_copyFrom 122 = .ok (.sipush 150, 3) := by decide +kernel
theorem dX0_copyFrom_125 : decode cX0_copyFrom 125 = .ok (.invokestatic 37, 3) := by decide +kernel
theorem dX0_copyFrom_128 : decode cX0_copyFrom 128 = .ok (.aload_n 0, 1) := by decide +kernel
theorem dX0_copyFrom_129 : decode cX0_copyFrom 129 = .ok (.aload_n 1, 1) := by decide +kernel
theorem dX0_copyFrom_130 : decode cX0_copyFrom 130 = .ok (.getfield 43, 3) := by decide +kernel
theorem dX0_copyFrom_133 : decode cX0_copyFrom 133 = .ok (.putfield 43, 3) := by decide +kernel
theorem dX0_copyFrom_136 : decode cX0_copyFrom 136 = .ok (.return_, 1) := by decide +kernel
theorem dX0_has_0 : decode cX0_has 0 = .ok (.iload_n 1, 1) := by decide +kernel
theorem dX0_has_1 : decode cX0_has 1 = .ok (.ifCond .lt 15, 3) := by decide +kernel
theorem dX0_has_4 : decode cX0_has 4 = .ok (.iload_n 1, 1) := by decide +kernel
theorem dX0_has_5 : decode cX0_has 5 = .ok (.aload_n 0, 1) := by decide +kernel
theorem dX0_has_6 : decode cX0_has 6 = .ok (.getfield 43, 3) := by decide +kernel
theorem dX0_has_9 : decode cX0_has 9 = .ok (.if_icmp .ge 7, 3) := by decide +kernel
theorem dX0_has_12 : decode cX0_has 12 = .ok (.iconst 1, 1) := by decide +kernel
theorem dX0_has_13 : decode cX0_has 13 = .ok (.goto 4, 3) := by decide +kernel
theorem dX0_has_16 : decode cX0_has 16 = .ok (.iconst 0, 1) := by decide +kernel
theorem dX0_has_17 : decode cX0_has 17 = .ok (.ireturn, 1) := by decide +kernel
theorem dX0_isFull_0 : decode cX0_isFull 0 = .ok (.aload_n 0, 1) := by decide +kernel
theorem dX0_isFull_1 : decode cX0_isFull 1 = .ok (.getfield 43, 3) := by decide +kernel
theorem dX0_isFull_4 : decode cX0_isFull 4 = .ok (.sipush 150, 3) := by decide +kernel
theorem dX0_isFull_7 : decode cX0_isFull 7 = .ok (.if_icmp .lt 7, 3) := by decide +kernel
theorem dX0_isFull_10 : decode cX0_isFull 10 = .ok (.iconst 1, 1) := by decide +kernel
theorem dX0_isFull_11 : decode cX0_isFull 11 = .ok (.goto 4, 3) := by decide +kernel
theorem dX0_isFull_14 : decode cX0_isFull 14 = .ok (.iconst 0, 1) := by decide +kernel
theorem dX0_isFull_15 : decode cX0_isFull 15 = .ok (.ireturn, 1) := by decide +kernel
theorem dX0_add_0 : decode cX0_add 0 = .ok (.aload_n 0, 1) := by decide +kernel
theorem dX0_add_1 : decode cX0_add 1 = .ok (.invokevirtual 47, 3) := by decide +kernel
theorem dX0_add_4 : decode cX0_add 4 = .ok (.ifCond .eq 6, 3) := by decide +kernel
theorem dX0_add_7 : decode cX0_add 7 = .ok (.bipush (-5), 2) := by decide +kernel
theorem dX0_add_9 : decode cX0_add 9 = .ok (.ireturn, 1) := by decide +kernel
theorem dX0_add_10 : decode cX0_add 10 = .ok (.aload_n 0, 1) := by decide +kernel
theorem dX0_add_11 : decode cX0_add 11 = .ok (.getfield 43, 3) := by decide +kernel
theorem dX0_add_14 : decode cX0_add 14 = .ok (.istore 6, 2) := by decide +kernel
theorem dX0_add_16 : decode cX0_add 16 = .ok (.aload_n 0, 1) := by decide +kernel
theorem dX0_add_17 : decode cX0_add 17 = .ok (.dup, 1) := by decide +kernel
theorem dX0_add_18 : decode cX0_add 18 = .ok (.getfield 43, 3) := by decide +kernel
theorem dX0_add_21 : decode cX0_add 21 = .ok (.iconst 1, 1) := by decide +kernel
theorem dX0_add_22 : decode cX0_add 22 = .ok (.iadd, 1) := by decide +kernel
theorem dX0_add_23 : decode cX0_add 23 = .ok (.putfield 43, 3) := by decide +kernel
theorem dX0_add_26 : decode cX0_add 26 = .ok (.aload_n 0, 1) := by decide +kernel
theorem dX0_add_27 : decode cX0_add 27 = .ok (.getfield 11, 3) := by decide +kernel
theorem dX0_add_30 : decode cX0_add 30 = .ok (.iload 6, 2) := by decide +kernel
theorem dX0_add_32 : decode cX0_add 32 = .ok (.iload_n 1, 1) := by decide +kernel
theorem dX0_add_33 : decode cX0_add 33 = .ok (.iastore, 1) := by decide +kernel
theorem dX0_add_34 : decode cX0_add 34 = .ok (.aload_n 0, 1) := by decide +kernel
theorem dX0_add_35 : decode cX0_add 35 = .ok (.getfield 15, 3) := by decide +kernel
theorem dX0_add_38 : decode cX0_add 38 = .ok (.iload 6, 2) := by decide +kernel
theorem dX0_add_40 : decode cX0_add 40 = .ok (.iload_n 2, 1) := by decide +kernel
theorem dX0_add_41 : decode cX0_add 41 = .ok (.iastore, 1) := by decide +kernel
theorem dX0_add_42 : decode cX0_add 42 = .ok (.aload_n 0, 1) := by decide +kernel
theorem dX0_add_43 : decode cX0_add 43 = .ok (.getfield 18, 3) := by decide +kernel
theorem dX0_add_46 : decode cX0_add 46 = .ok (.iload 6, 2) := by decide +kernel
theorem dX0_add_48 : decode cX0_add 48 = .ok (.iload_n 3, 1) := by decide +kernel
theorem dX0_add_49 : decode cX0_add 49 = .ok (.bastore, 1) := by decide +kernel
theorem dX0_add_50 : decode cX0_add 50 = .ok (.aload_n 0, 1) := by decide +kernel
theorem dX0_add_51 : decode cX0_add 51 = .ok (.getfield 22, 3) := by decide +kernel
theorem dX0_add_54 : decode cX0_add 54 = .ok (.iload 6, 2) := by decide +kernel
theorem dX0_add_56 : decode cX0_add 56 = .ok (.iconst 1, 1) := by decide +kernel
theorem dX0_add_57 : decode cX0_add 57 = .ok (.iastore, 1) := by decide +kernel
theorem dX0_add_58 : decode cX0_add 58 = .ok (.aload_n 0, 1) := by decide +kernel
theorem dX0_add_59 : decode cX0_add 59 = .ok (.getfield 25, 3) := by decide +kernel
theorem dX0_add_62 : decode cX0_add 62 = .ok (.iload 6, 2) := by decide +kernel
theorem dX0_add_64 : decode cX0_add 64 = .ok (.iload 4, 2) := by decide +kernel
theorem dX0_add_66 : decode cX0_add 66 = .ok (.iastore, 1) := by decide +kernel
theorem dX0_add_67 : decode cX0_add 67 = .ok (.aload_n 0, 1) := by decide +kernel
theorem dX0_add_68 : decode cX0_add 68 = .ok (.getfield 28, 3) := by decide +kernel
theorem dX0_add_71 : decode cX0_add 71 = .ok (.iload 6, 2) := by decide +kernel
theorem dX0_add_73 : decode cX0_add 73 = .ok (.bipush (-5), 2) := by decide +kernel
theorem dX0_add_75 : decode cX0_add 75 = .ok (.iastore, 1) := by decide +kernel
theorem dX0_add_76 : decode cX0_add 76 = .ok (.aload_n 0, 1) := by decide +kernel
theorem dX0_add_77 : decode cX0_add 77 = .ok (.getfield 31, 3) := by decide +kernel
theorem dX0_add_80 : decode cX0_add 80 = .ok (.iload 6, 2) := by decide +kernel
theorem dX0_add_82 : decode cX0_add 82 = .ok (.iload 5, 2) := by decide +kernel
theorem dX0_add_84 : decode cX0_add 84 = .ok (.iastore, 1) := by decide +kernel
theorem dX0_add_85 : decode cX0_add 85 = .ok (.aload_n 0, 1) := by decide +kernel
theorem dX0_add_86 : decode cX0_add 86 = .ok (.getfield 34, 3) := by decide +kernel
theorem dX0_add_89 : decode cX0_add 89 = .ok (.iload 6, 2) := by decide +kernel
theorem dX0_add_91 : decode cX0_add 91 = .ok (.iconst 1, 1) := by decide +kernel
theorem dX0_add_92 : decode cX0_add 92 = .ok (.bastore, 1) := by decide +kernel
theorem dX0_add_93 : decode cX0_add 93 = .ok (.iload 6, 2) := by decide +kernel
theorem dX0_add_95 : decode cX0_add 95 = .ok (.ireturn, 1) := by decide +kernel
theorem dX0_clientOf_0 : decode cX0_clientOf 0 = .ok (.aload_n 0, 1) := by decide +kernel
theorem dX0_clientOf_1 : decode cX0_clientOf 1 = .ok (.iload_n 1, 1) := by decide +kernel
theorem dX0_clientOf_2 : decode cX0_clientOf 2 = .ok (.invokevirtual 51, 3) := by decide +kernel
theorem dX0_clientOf_5 : decode cX0_clientOf 5 = .ok (.ifCond .eq 12, 3) := by decide +kernel
theorem dX0_clientOf_8 : decode cX0_clientOf 8 = .ok (.aload_n 0, 1) := by decide +kernel
theorem dX0_clientOf_9 : decode cX0_clientOf 9 = .ok (.getfield 11, 3) := by decide +kernel
theorem dX0_clientOf_12 : decode cX0_clientOf 12 = .ok (.iload_n 1, 1) := by decide +kernel
theorem dX0_clientOf_13 : decode cX0_clientOf 13 = .ok (.iaload, 1) := by decide +kernel
theorem dX0_clientOf_14 : decode cX0_clientOf 14 = .ok (.goto 5, 3) := by decide +kernel
theorem dX0_clientOf_17 : decode cX0_clientOf 17 = .ok (.bipush (-5), 2) := by decide +kernel
theorem dX0_clientOf_19 : decode cX0_clientOf 19 = .ok (.ireturn, 1) := by decide +kernel
theorem dX0_recordsOf_0 : decode cX0_recordsOf 0 = .ok (.aload_n 0, 1) := by decide +kernel
theorem dX0_recordsOf_1 : decode cX0_recordsOf 1 = .ok (.iload_n 1, 1) := by decide +kernel
theorem dX0_recordsOf_2 : decode cX0_recordsOf 2 = .ok (.invokevirtual 51, 3) := by decide +kernel
theorem dX0_recordsOf_5 : decode cX0_recordsOf 5 = .ok (.ifCond .eq 12, 3) := by decide +kernel
theorem dX0_recordsOf_8 : decode cX0_recordsOf 8 = .ok (.aload_n 0, 1) := by decide +kernel
theorem dX0_recordsOf_9 : decode cX0_recordsOf 9 = .ok (.getfield 15, 3) := by decide +kernel
theorem dX0_recordsOf_12 : decode cX0_recordsOf 12 = .ok (.iload_n 1, 1) := by decide +kernel
theorem dX0_recordsOf_13 : decode cX0_recordsOf 13 = .ok (.iaload, 1) := by decide +kernel
theorem dX0_recordsOf_14 : decode cX0_recordsOf 14 = .ok (.goto 4, 3) := by decide +kernel
theorem dX0_recordsOf_17 : decode cX0_recordsOf 17 = .ok (.iconst 0, 1) := by decide +kernel
theorem dX0_recordsOf_18 : decode cX0_recordsOf 18 = .ok (.ireturn, 1) := by decide +kernel
theorem dX0_isUrgent_0 : decode cX0_isUrgent 0 = .ok (.aload_n 0, 1) := by decide +kernel
theorem dX0_isUrgent_1 : decode cX0_isUrgent 1 = .ok (.iload_n 1, 1) := by decide +kernel
theorem dX0_isUrgent_2 : decode cX0_isUrgent 2 = .ok (.invokevirtual 51, 3) := by decide +kernel
theorem dX0_isUrgent_5 : decode cX0_isUrgent 5 = .ok (.ifCond .eq 16, 3) := by decide +kernel
theorem dX0_isUrgent_8 : decode cX0_isUrgent 8 = .ok (.aload_n 0, 1) := by decide +kernel
theorem dX0_isUrgent_9 : decode cX0_isUrgent 9 = .ok (.getfield 18, 3) := by decide +kernel
theorem dX0_isUrgent_12 : decode cX0_isUrgent 12 = .ok (.iload_n 1, 1) := by decide +kernel
theorem dX0_isUrgent_13 : decode cX0_isUrgent 13 = .ok (.baload, 1) := by decide +kernel
theorem dX0_isUrgent_14 : decode cX0_isUrgent 14 = .ok (.ifCond .eq 7, 3) := by decide +kernel
theorem dX0_isUrgent_17 : decode cX0_isUrgent 17 = .ok (.iconst 1, 1) := by decide +kernel
theorem dX0_isUrgent_18 : decode cX0_isUrgent 18 = .ok (.goto 4, 3) := by decide +kernel
theorem dX0_isUrgent_21 : decode cX0_isUrgent 21 = .ok (.iconst 0, 1) := by decide +kernel
theorem dX0_isUrgent_22 : decode cX0_isUrgent 22 = .ok (.ireturn, 1) := by decide +kernel
theorem dX0_stateOf_0 : decode cX0_stateOf 0 = .ok (.aload_n 0, 1) := by decide +kernel
theorem dX0_stateOf_1 : decode cX0_stateOf 1 = .ok (.iload_n 1, 1) := by decide +kernel
theorem dX0_stateOf_2 : decode cX0_stateOf 2 = .ok (.invokevirtual 51, 3) := by decide +kernel
theorem dX0_stateOf_5 : decode cX0_stateOf 5 = .ok (.ifCond .eq 12, 3) := by decide +kernel
theorem dX0_stateOf_8 : decode cX0_stateOf 8 = .ok (.aload_n 0, 1) := by decide +kernel
theorem dX0_stateOf_9 : decode cX0_stateOf 9 = .ok (.getfield 22, 3) := by decide +kernel
theorem dX0_stateOf_12 : decode cX0_stateOf 12 = .ok (.iload_n 1, 1) := by decide +kernel
theorem dX0_stateOf_13 : decode cX0_stateOf 13 = .ok (.iaload, 1) := by decide +kernel
theorem dX0_stateOf_14 : decode cX0_stateOf 14 = .ok (.goto 5, 3) := by decide +kernel
theorem dX0_stateOf_17 : decode cX0_stateOf 17 = .ok (.bipush (-5), 2) := by decide +kernel
theorem dX0_stateOf_19 : decode cX0_stateOf 19 = .ok (.ireturn, 1) := by decide +kernel
theorem dX0_setState_0 : decode cX0_setState 0 = .ok (.aload_n 0, 1) := by decide +kernel
theorem dX0_setState_1 : decode cX0_setState 1 = .ok (.iload_n 1, 1) := by decide +kernel
theorem dX0_setState_2 : decode cX0_setState 2 = .ok (.invokevirtual 51, 3) := by decide +kernel
theorem dX0_setState_5 : decode cX0_setState 5 = .ok (.ifCond .eq 10, 3) := by decide +kernel
theorem dX0_setState_8 : decode cX0_setState 8 = .ok (.aload_n 0, 1) := by decide +kernel
theorem dX0_setState_9 : decode cX0_setState 9 = .ok (.getfield 22, 3) := by decide +kernel
theorem dX0_setState_12 : decode cX0_setState 12 = .ok (.iload_n 1, 1) := by decide +kernel
theorem dX0_setState_13 : decode cX0_setState 13 = .ok (.iload_n 2, 1) := by decide +kernel
theorem dX0_setState_14 : decode cX0_setState 14 = .ok (.iastore, 1) := by decide +kernel
theorem dX0_setState_15 : decode cX0_setState 15 = .ok (.return_, 1) := by decide +kernel
theorem dX0_submitTimeOf_0 : decode cX0_submitTimeOf 0 = .ok (.aload_n 0, 1) := by decide +kernel
theorem dX0_submitTimeOf_1 : decode cX0_submitTimeOf 1 = .ok (.iload_n 1, 1) := by decide +kernel
theorem dX0_submitTimeOf_2 : decode cX0_submitTimeOf 2 = .ok (.invokevirtual 51, 3) := by decide +kernel
theorem dX0_submitTimeOf_5 : decode cX0_submitTimeOf 5 = .ok (.ifCond .eq 12, 3) := by decide +kernel
theorem dX0_submitTimeOf_8 : decode cX0_submitTimeOf 8 = .ok (.aload_n 0, 1) := by decide +kernel
theorem dX0_submitTimeOf_9 : decode cX0_submitTimeOf 9 = .ok (.getfield 25, 3) := by decide +kernel
theorem dX0_submitTimeOf_12 : decode cX0_submitTimeOf 12 = .ok (.iload_n 1, 1) := by decide +kernel
theorem dX0_submitTimeOf_13 : decode cX0_submitTimeOf 13 = .ok (.iaload, 1) := by decide +kernel
theorem dX0_submitTimeOf_14 : decode cX0_submitTimeOf 14 = .ok (.goto 5, 3) := by decide +kernel
theorem dX0_submitTimeOf_17 : decode cX0_submitTimeOf 17 = .ok (.bipush (-5), 2) := by decide +kernel
theorem dX0_submitTimeOf_19 : decode cX0_submitTimeOf 19 = .ok (.ireturn, 1) := by decide +kernel
theorem dX0_answerTimeOf_0 : decode cX0_answerTimeOf 0 = .ok (.aload_n 0, 1) := by decide +kernel
theorem dX0_answerTimeOf_1 : decode cX0_answerTimeOf 1 = .ok (.iload_n 1, 1) := by decide +kernel
theorem dX0_answerTimeOf_2 : decode cX0_answerTimeOf 2 = .ok (.invokevirtual 51, 3) := by decide +kernel
theorem dX0_answerTimeOf_5 : decode cX0_answerTimeOf 5 = .ok (.ifCond .eq 12, 3) := by decide +kernel
theorem dX0_answerTimeOf_8 : decode cX0_answerTimeOf 8 = .ok (.aload_n 0, 1) := by decide +kernel
theorem dX0_answerTimeOf_9 : decode cX0_answerTimeOf 9 = .ok (.getfield 28, 3) := by decide +kernel
theorem dX0_answerTimeOf_12 : decode cX0_answerTimeOf 12 = .ok (.iload_n 1, 1) := by decide +kernel
theorem dX0_answerTimeOf_13 : decode cX0_answerTimeOf 13 = .ok (.iaload, 1) := by decide +kernel
theorem dX0_answerTimeOf_14 : decode cX0_answerTimeOf 14 = .ok (.goto 5, 3) := by decide +kernel
theorem dX0_answerTimeOf_17 : decode cX0_answerTimeOf 17 = .ok (.bipush (-5), 2) := by decide +kernel
theorem dX0_answerTimeOf_19 : decode cX0_answerTimeOf 19 = .ok (.ireturn, 1) := by decide +kernel
theorem dX0_answer_0 : decode cX0_answer 0 = .ok (.aload_n 0, 1) := by decide +kernel
theorem dX0_answer_1 : decode cX0_answer 1 = .ok (.iload_n 1, 1) := by decide +kernel
theorem dX0_answer_2 : decode cX0_answer 2 = .ok (.invokevirtual 51, 3) := by decide +kernel
theorem dX0_answer_5 : decode cX0_answer 5 = .ok (.ifCond .eq 17, 3) := by decide +kernel
theorem dX0_answer_8 : decode cX0_answer 8 = .ok (.aload_n 0, 1) := by decide +kernel
theorem dX0_answer_9 : decode cX0_answer 9 = .ok (.getfield 22, 3) := by decide +kernel
theorem dX0_answer_12 : decode cX0_answer 12 = .ok (.iload_n 1, 1) := by decide +kernel
theorem dX0_answer_13 : decode cX0_answer 13 = .ok (.iconst 4, 1) := by decide +kernel
theorem dX0_answer_14 : decode cX0_answer 14 = .ok (.iastore, 1) := by decide +kernel
theorem dX0_answer_15 : decode cX0_answer 15 = .ok (.aload_n 0, 1) := by decide +kernel
theorem dX0_answer_16 : decode cX0_answer 16 = .ok (.getfield 28, 3) := by decide +kernel
theorem dX0_answer_19 : decode cX0_answer 19 = .ok (.iload_n 1, 1) := by decide +kernel
theorem dX0_answer_20 : decode cX0_answer 20 = .ok (.iload_n 2, 1) := by decide +kernel
theorem dX0_answer_21 : decode cX0_answer 21 = .ok (.iastore, 1) := by decide +kernel
theorem dX0_answer_22 : decode cX0_answer 22 = .ok (.return_, 1) := by decide +kernel
theorem dX0_groupOf_0 : decode cX0_groupOf 0 = .ok (.aload_n 0, 1) := by decide +kernel
theorem dX0_groupOf_1 : decode cX0_groupOf 1 = .ok (.iload_n 1, 1) := by decide +kernel
theorem dX0_groupOf_2 : decode cX0_groupOf 2 = .ok (.invokevirtual 51, 3) := by decide +kernel
theorem dX0_groupOf_5 : decode cX0_groupOf 5 = .ok (.ifCond .eq 12, 3) := by decide +kernel
theorem dX0_groupOf_8 : decode cX0_groupOf 8 = .ok (.aload_n 0, 1) := by decide +kernel
theorem dX0_groupOf_9 : decode cX0_groupOf 9 = .ok (.getfield 31, 3) := by decide +kernel
theorem dX0_groupOf_12 : decode cX0_groupOf 12 = .ok (.iload_n 1, 1) := by decide +kernel
theorem dX0_groupOf_13 : decode cX0_groupOf 13 = .ok (.iaload, 1) := by decide +kernel
theorem dX0_groupOf_14 : decode cX0_groupOf 14 = .ok (.goto 5, 3) := by decide +kernel
theorem dX0_groupOf_17 : decode cX0_groupOf 17 = .ok (.bipush (-5), 2) := by decide +kernel
theorem dX0_groupOf_19 : decode cX0_groupOf 19 = .ok (.ireturn, 1) := by decide +kernel
theorem dX0_leaveGroup_0 : decode cX0_leaveGroup 0 = .ok (.aload_n 0, 1) := by decide +kernel
theorem dX0_leaveGroup_1 : decode cX0_leaveGroup 1 = .ok (.iload_n 1, 1) := by decide +kernel
theorem dX0_leaveGroup_2 : decode cX0_leaveGroup 2 = .ok (.invokevirtual 51, 3) := by decide +kernel
theorem dX0_leaveGroup_5 : decode cX0_leaveGroup 5 = .ok (.ifCond .eq 10, 3) := by decide +kernel
theorem dX0_leaveGroup_8 : decode cX0_leaveGroup 8 = .ok (.aload_n 0, 1) := by decide +kernel
theorem dX0_leaveGroup_9 : decode cX0_leaveGroup 9 = .ok (.getfield 34, 3) := by decide +kernel
theorem dX0_leaveGroup_12 : decode cX0_leaveGroup 12 = .ok (.iload_n 1, 1) := by decide +kernel
theorem dX0_leaveGroup_13 : decode cX0_leaveGroup 13 = .ok (.iconst 0, 1) := by decide +kernel
theorem dX0_leaveGroup_14 : decode cX0_leaveGroup 14 = .ok (.bastore, 1) := by decide +kernel
theorem dX0_leaveGroup_15 : decode cX0_leaveGroup 15 = .ok (.return_, 1) := by decide +kernel
theorem dX0_memberAt_0 : decode cX0_memberAt 0 = .ok (.iconst 0, 1) := by decide +kernel
theorem dX0_memberAt_1 : decode cX0_memberAt 1 = .ok (.istore_n 3, 1) := by decide +kernel
theorem dX0_memberAt_2 : decode cX0_memberAt 2 = .ok (.iconst 0, 1) := by decide +kernel
theorem dX0_memberAt_3 : decode cX0_memberAt 3 = .ok (.istore 4, 2) := by decide +kernel
theorem dX0_memberAt_5 : decode cX0_memberAt 5 = .ok (.iload 4, 2) := by decide +kernel
theorem dX0_memberAt_7 : decode cX0_memberAt 7 = .ok (.aload_n 0, 1) := by decide +kernel
theorem dX0_memberAt_8 : decode cX0_memberAt 8 = .ok (.getfield 43, 3) := by decide +kernel
theorem dX0_memberAt_11 : decode cX0_memberAt 11 = .ok (.if_icmp .ge 41, 3) := by decide +kernel
theorem dX0_memberAt_14 : decode cX0_memberAt 14 = .ok (.aload_n 0, 1) := by decide +kernel
theorem dX0_memberAt_15 : decode cX0_memberAt 15 = .ok (.getfield 34, 3) := by decide +kernel
theorem dX0_memberAt_18 : decode cX0_memberAt 18 = .ok (.iload 4, 2) := by decide +kernel
theorem dX0_memberAt_20 : decode cX0_memberAt 20 = .ok (.baload, 1) := by decide +kernel
theorem dX0_memberAt_21 : decode cX0_memberAt 21 = .ok (.ifCond .eq 25, 3) := by decide +kernel
theorem dX0_memberAt_24 : decode cX0_memberAt 24 = .ok (.aload_n 0, 1) := by decide +kernel
theorem dX0_memberAt_25 : decode cX0_memberAt 25 = .ok (.getfield 31, 3) := by decide +kernel
theorem dX0_memberAt_28 : decode cX0_memberAt 28 = .ok (.iload 4, 2) := by decide +kernel
theorem dX0_memberAt_30 : decode cX0_memberAt 30 = .ok (.iaload, 1) := by decide +kernel
theorem dX0_memberAt_31 : decode cX0_memberAt 31 = .ok (.iload_n 1, 1) := by decide +kernel
theorem dX0_memberAt_32 : decode cX0_memberAt 32 = .ok (.if_icmp .ne 14, 3) := by decide +kernel
theorem dX0_memberAt_35 : decode cX0_memberAt 35 = .ok (.iload_n 3, 1) := by decide +kernel
theorem dX0_memberAt_36 : decode cX0_memberAt 36 = .ok (.iload_n 2, 1) := by decide +kernel
theorem dX0_memberAt_37 : decode cX0_memberAt 37 = .ok (.if_icmp .ne 6, 3) := by decide +kernel
theorem dX0_memberAt_40 : decode cX0_memberAt 40 = .ok (.iload 4, 2) := by decide +kernel
theorem dX0_memberAt_42 : decode cX0_memberAt 42 = .ok (.ireturn, 1) := by decide +kernel
theorem dX0_memberAt_43 : decode cX0_memberAt 43 = .ok (.iinc 3 1, 3) := by decide +kernel
theorem dX0_memberAt_46 : decode cX0_memberAt 46 = .ok (.iinc 4 1, 3) := by decide +kernel
theorem dX0_memberAt_49 : decode cX0_memberAt 49 = .ok (.goto (-44), 3) := by decide +kernel
theorem dX0_memberAt_52 : decode cX0_memberAt 52 = .ok (.bipush (-5), 2) := by decide +kernel
theorem dX0_memberAt_54 : decode cX0_memberAt 54 = .ok (.ireturn, 1) := by decide +kernel
theorem dX0_moveMembers_0 : decode cX0_moveMembers 0 = .ok (.iconst 0, 1) := by decide +kernel
theorem dX0_moveMembers_1 : decode cX0_moveMembers 1 = .ok (.istore 4, 2) := by decide +kernel
theorem dX0_moveMembers_3 : decode cX0_moveMembers 3 = .ok (.iload 4, 2) := by decide +kernel
theorem dX0_moveMembers_5 : decode cX0_moveMembers 5 = .ok (.aload_n 0, 1) := by decide +kernel
theorem dX0_moveMembers_6 : decode cX0_moveMembers 6 = .ok (.getfield 43, 3) := by decide +kernel
theorem dX0_moveMembers_9 : decode cX0_moveMembers 9 = .ok (.if_icmp .ge 49, 3) := by decide +kernel
theorem dX0_moveMembers_12 : decode cX0_moveMembers 12 = .ok (.aload_n 0, 1) := by decide +kernel
theorem dX0_moveMembers_13 : decode cX0_moveMembers 13 = .ok (.getfield 34, 3) := by decide +kernel
theorem dX0_moveMembers_16 : decode cX0_moveMembers 16 = .ok (.iload 4, 2) := by decide +kernel
theorem dX0_moveMembers_18 : decode cX0_moveMembers 18 = .ok (.baload, 1) := by decide +kernel
theorem dX0_moveMembers_19 : decode cX0_moveMembers 19 = .ok (.ifCond .eq 33, 3) := by decide +kernel
theorem dX0_moveMembers_22 : decode cX0_moveMembers 22 = .ok (.aload_n 0, 1) := by decide +kernel
theorem dX0_moveMembers_23 : decode cX0_moveMembers 23 = .ok (.getfield 31, 3) := by decide +kernel
theorem dX0_moveMembers_26 : decode cX0_moveMembers 26 = .ok (.iload 4, 2) := by decide +kernel
theorem dX0_moveMembers_28 : decode cX0_moveMembers 28 = .ok (.iaload, 1) := by decide +kernel
theorem dX0_moveMembers_29 : decode cX0_moveMembers 29 = .ok (.iload_n 1, 1) := by decide +kernel
theorem dX0_moveMembers_30 : decode cX0_moveMembers 30 = .ok (.if_icmp .ne 22, 3) := by decide +kernel
theorem dX0_moveMembers_33 : decode cX0_moveMembers 33 = .ok (.aload_n 0, 1) := by decide +kernel
theorem dX0_moveMembers_34 : decode cX0_moveMembers 34 = .ok (.getfield 22, 3) := by decide +kernel
theorem dX0_moveMembers_37 : decode cX0_moveMembers 37 = .ok (.iload 4, 2) := by decide +kernel
theorem dX0_moveMembers_39 : decode cX0_moveMembers 39 = .ok (.iaload, 1) := by decide +kernel
theorem dX0_moveMembers_40 : decode cX0_moveMembers 40 = .ok (.iload_n 2, 1) := by decide +kernel
theorem dX0_moveMembers_41 : decode cX0_moveMembers 41 = .ok (.if_icmp .ne 11, 3) := by decide +kernel
theorem dX0_moveMembers_44 : decode cX0_moveMembers 44 = .ok (.aload_n 0, 1) := by decide +kernel
theorem dX0_moveMembers_45 : decode cX0_moveMembers 45 = .ok (.getfield 22, 3) := by decide +kernel
theorem dX0_moveMembers_48 : decode cX0_moveMembers 48 = .ok (.iload 4, 2) := by decide +kernel
theorem dX0_moveMembers_50 : decode cX0_moveMembers 50 = .ok (.iload_n 3, 1) := by decide +kernel
theorem dX0_moveMembers_51 : decode cX0_moveMembers 51 = .ok (.iastore, 1) := by decide +kernel
theorem dX0_moveMembers_52 : decode cX0_moveMembers 52 = .ok (.iinc 4 1, 3) := by decide +kernel
theorem dX0_moveMembers_55 : decode cX0_moveMembers 55 = .ok (.goto (-52), 3) := by decide +kernel
theorem dX0_moveMembers_58 : decode cX0_moveMembers 58 = .ok (.return_, 1) := by decide +kernel
theorem dX1_init_0 : decode cX1_init 0 = .ok (.aload_n 0, 1) := by decide +kernel
theorem dX1_init_1 : decode cX1_init 1 = .ok (.invokespecial 5, 3) := by decide +kernel
theorem dX1_init_4 : decode cX1_init 4 = .ok (.aload_n 0, 1) := by decide +kernel
theorem dX1_init_5 : decode cX1_init 5 = .ok (.sipush 150, 3) := by decide +kernel
theorem dX1_init_8 : decode cX1_init 8 = .ok (.newarray .int, 2) := by decide +kernel
theorem dX1_init_10 : decode cX1_init 10 = .ok (.putfield 13, 3) := by decide +kernel
theorem dX1_init_13 : decode cX1_init 13 = .ok (.aload_n 0, 1) := by decide +kernel
theorem dX1_init_14 : decode cX1_init 14 = .ok (.sipush 150, 3) := by decide +kernel
theorem dX1_init_17 : decode cX1_init 17 = .ok (.newarray .int, 2) := by decide +kernel
theorem dX1_init_19 : decode cX1_init 19 = .ok (.putfield 17, 3) := by decide +kernel
theorem dX1_init_22 : decode cX1_init 22 = .ok (.aload_n 0, 1) := by decide +kernel
theorem dX1_init_23 : decode cX1_init 23 = .ok (.sipush 150, 3) := by decide +kernel
theorem dX1_init_26 : decode cX1_init 26 = .ok (.newarray .int, 2) := by decide +kernel
theorem dX1_init_28 : decode cX1_init 28 = .ok (.putfield 20, 3) := by decide +kernel
theorem dX1_init_31 : decode cX1_init 31 = .ok (.aload_n 0, 1) := by decide +kernel
theorem dX1_init_32 : decode cX1_init 32 = .ok (.sipush 150, 3) := by decide +kernel
theorem dX1_init_35 : decode cX1_init 35 = .ok (.newarray .int, 2) := by decide +kernel
theorem dX1_init_37 : decode cX1_init 37 = .ok (.putfield 23, 3) := by decide +kernel
theorem dX1_init_40 : decode cX1_init 40 = .ok (.return_, 1) := by decide +kernel
theorem dX1_copyFrom_0 : decode cX1_copyFrom 0 = .ok (.aload_n 1, 1) := by decide +kernel
theorem dX1_copyFrom_1 : decode cX1_copyFrom 1 = .ok (.getfield 13, 3) := by decide +kernel
theorem dX1_copyFrom_4 : decode cX1_copyFrom 4 = .ok (.iconst 0, 1) := by decide +kernel
theorem dX1_copyFrom_5 : decode cX1_copyFrom 5 = .ok (.aload_n 0, 1) := by decide +kernel
theorem dX1_copyFrom_6 : decode cX1_copyFrom 6 = .ok (.getfield 13, 3) := by decide +kernel
theorem dX1_copyFrom_9 : decode cX1_copyFrom 9 = .ok (.iconst 0, 1) := by decide +kernel
theorem dX1_copyFrom_10 : decode cX1_copyFrom 10 = .ok (.sipush 150, 3) := by decide +kernel
theorem dX1_copyFrom_13 : decode cX1_copyFrom 13 = .ok (.invokestatic 26, 3) := by decide +kernel
theorem dX1_copyFrom_16 : decode cX1_copyFrom 16 = .ok (.aload_n 1, 1) := by decide +kernel
theorem dX1_copyFrom_17 : decode cX1_copyFrom 17 = .ok (.getfield 17, 3) := by decide +kernel
theorem dX1_copyFrom_20 : decode cX1_copyFrom 20 = .ok (.iconst 0, 1) := by decide +kernel
theorem dX1_copyFrom_21 : decode cX1_copyFrom 21 = .ok (.aload_n 0, 1) := by decide +kernel
theorem dX1_copyFrom_22 : decode cX1_copyFrom 22 = .ok (.getfield 17, 3) := by decide +kernel
theorem dX1_copyFrom_25 : decode cX1_copyFrom 25 = .ok (.iconst 0, 1) := by decide +kernel
theorem dX1_copyFrom_26 : decode cX1_copyFrom 26 = .ok (.sipush 150, 3) := by decide +kernel
theorem dX1_copyFrom_29 : decode cX1_copyFrom 29 = .ok (.invokestatic 26, 3) := by decide +kernel
theorem dX1_copyFrom_32 : decode cX1_copyFrom 32 = .ok (.aload_n 1, 1) := by decide +kernel
theorem dX1_copyFrom_33 : decode cX1_copyFrom 33 = .ok (.getfield 20, 3) := by decide +kernel
theorem dX1_copyFrom_36 : decode cX1_copyFrom 36 = .ok (.iconst 0, 1) := by decide +kernel
theorem dX1_copyFrom_37 : decode cX1_copyFrom 37 = .ok (.aload_n 0, 1) := by decide +kernel
theorem dX1_copyFrom_38 : decode cX1_copyFrom 38 = .ok (.getfield 20, 3) := by decide +kernel
theorem dX1_copyFrom_41 : decode cX1_copyFrom 41 = .ok (.iconst 0, 1) := by decide +kernel
theorem dX1_copyFrom_42 : decode cX1_copyFrom 42 = .ok (.sipush 150, 3) := by decide +kernel
theorem dX1_copyFrom_45 : decode cX1_copyFrom 45 = .ok (.invokestatic 26, 3) := by decide +kernel
theorem dX1_copyFrom_48 : decode cX1_copyFrom 48 = .ok (.aload_n 1, 1) := by decide +kernel
theorem dX1_copyFrom_49 : decode cX1_copyFrom 49 = .ok (.getfield 23, 3) := by decide +kernel
theorem dX1_copyFrom_52 : decode cX1_copyFrom 52 = .ok (.iconst 0, 1) := by decide +kernel
theorem dX1_copyFrom_53 : decode cX1_copyFrom 53 = .ok (.aload_n 0, 1) := by decide +kernel
theorem dX1_copyFrom_54 : decode cX1_copyFrom 54 = .ok (.getfield 23, 3) := by decide +kernel
theorem dX1_copyFrom_57 : decode cX1_copyFrom 57 = .ok (.iconst 0, 1) := by decide +kernel
theorem dX1_copyFrom_58 : decode cX1_copyFrom 58 = .ok (.sipush 150, 3) := by decide +kernel
theorem dX1_copyFrom_61 : decode cX1_copyFrom 61 = .ok (.invokestatic 26, 3) := by decide +kernel
theorem dX1_copyFrom_64 : decode cX1_copyFrom 64 = .ok (.aload_n 0, 1) := by decide +kernel
theorem dX1_copyFrom_65 : decode cX1_copyFrom 65 = .ok (.aload_n 1, 1) := by decide +kernel
theorem dX1_copyFrom_66 : decode cX1_copyFrom 66 = .ok (.getfield 32, 3) := by decide +kernel
theorem dX1_copyFrom_69 : decode cX1_copyFrom 69 = .ok (.putfield 32, 3) := by decide +kernel
theorem dX1_copyFrom_72 : decode cX1_copyFrom 72 = .ok (.return_, 1) := by decide +kernel
theorem dX1_has_0 : decode cX1_has 0 = .ok (.iload_n 1, 1) := by decide +kernel
theorem dX1_has_1 : decode cX1_has 1 = .ok (.ifCond .lt 15, 3) := by decide +kernel
theorem dX1_has_4 : decode cX1_has 4 = .ok (.iload_n 1, 1) := by decide +kernel
theorem dX1_has_5 : decode cX1_has 5 = .ok (.aload_n 0, 1) := by decide +kernel
theorem dX1_has_6 : decode cX1_has 6 = .ok (.getfield 32, 3) := by decide +kernel
theorem dX1_has_9 : decode cX1_has 9 = .ok (.if_icmp .ge 7, 3) := by decide +kernel
theorem dX1_has_12 : decode cX1_has 12 = .ok (.iconst 1, 1) := by decide +kernel
theorem dX1_has_13 : decode cX1_has 13 = .ok (.goto 4, 3) := by decide +kernel
theorem dX1_has_16 : decode cX1_has 16 = .ok (.iconst 0, 1) := by decide +kernel
theorem dX1_has_17 : decode cX1_has 17 = .ok (.ireturn, 1) := by decide +kernel
theorem dX1_begin_0 : decode cX1_begin 0 = .ok (.aload_n 0, 1) := by decide +kernel
theorem dX1_begin_1 : decode cX1_begin 1 = .ok (.getfield 32, 3) := by decide +kernel
theorem dX1_begin_4 : decode cX1_begin 4 = .ok (.sipush 150, 3) := by decide +kernel
theorem dX1_begin_7 : decode cX1_begin 7 = .ok (.if_icmp .lt 6, 3) := by decide +kernel
theorem dX1_begin_10 : decode cX1_begin 10 = .ok (.bipush (-5), 2) := by decide +kernel
theorem dX1_begin_12 : decode cX1_begin 12 = .ok (.ireturn, 1) := by decide +kernel
theorem dX1_begin_13 : decode cX1_begin 13 = .ok (.aload_n 0, 1) := by decide +kernel
theorem dX1_begin_14 : decode cX1_begin 14 = .ok (.getfield 32, 3) := by decide +kernel
theorem dX1_begin_17 : decode cX1_begin 17 = .ok (.istore_n 1, 1) := by decide +kernel
theorem dX1_begin_18 : decode cX1_begin 18 = .ok (.aload_n 0, 1) := by decide +kernel
theorem dX1_begin_19 : decode cX1_begin 19 = .ok (.dup, 1) := by decide +kernel
theorem dX1_begin_20 : decode cX1_begin 20 = .ok (.getfield 32, 3) := by decide +kernel
theorem dX1_begin_23 : decode cX1_begin 23 = .ok (.iconst 1, 1) := by decide +kernel
theorem dX1_begin_24 : decode cX1_begin 24 = .ok (.iadd, 1) := by decide +kernel
theorem dX1_begin_25 : decode cX1_begin 25 = .ok (.putfield 32, 3) := by decide +kernel
theorem dX1_begin_28 : decode cX1_begin 28 = .ok (.aload_n 0, 1) := by decide +kernel
theorem dX1_begin_29 : decode cX1_begin 29 = .ok (.getfield 13, 3) := by decide +kernel
theorem dX1_begin_32 : decode cX1_begin 32 = .ok (.iload_n 1, 1) := by decide +kernel
theorem dX1_begin_33 : decode cX1_begin 33 = .ok (.iconst 1, 1) := by decide +kernel
theorem dX1_begin_34 : decode cX1_begin 34 = .ok (.iastore, 1) := by decide +kernel
theorem dX1_begin_35 : decode cX1_begin 35 = .ok (.aload_n 0, 1) := by decide +kernel
theorem dX1_begin_36 : decode cX1_begin 36 = .ok (.getfield 17, 3) := by decide +kernel
theorem dX1_begin_39 : decode cX1_begin 39 = .ok (.iload_n 1, 1) := by decide +kernel
theorem dX1_begin_40 : decode cX1_begin 40 = .ok (.iconst 0, 1) := by decide +kernel
theorem dX1_begin_41 : decode cX1_begin 41 = .ok (.iastore, 1) := by decide +kernel
theorem dX1_begin_42 : decode cX1_begin 42 = .ok (.aload_n 0, 1) := by decide +kernel
theorem dX1_begin_43 : decode cX1_begin 43 = .ok (.getfield 20, 3) := by decide +kernel
theorem dX1_begin_46 : decode cX1_begin 46 = .ok (.iload_n 1, 1) := by decide +kernel
theorem dX1_begin_47 : decode cX1_begin 47 = .ok (.iconst 0, 1) := by decide +kernel
theorem dX1_begin_48 : decode cX1_begin 48 = .ok (.iastore, 1) := by decide +kernel
theorem dX1_begin_49 : decode cX1_begin 49 = .ok (.aload_n 0, 1) := by decide +kernel
theorem dX1_begin_50 : decode cX1_begin 50 = .ok (.getfield 23, 3) := by decide +kernel
theorem dX1_begin_53 : decode cX1_begin 53 = .ok (.iload_n 1, 1) := by decide +kernel
theorem dX1_begin_54 : decode cX1_begin 54 = .ok (.iconst 0, 1) := by decide +kernel
theorem dX1_begin_55 : decode cX1_begin 55 = .ok (.iastore, 1) := by decide +kernel
theorem dX1_begin_56 : decode cX1_begin 56 = .ok (.iload_n 1, 1) := by decide +kernel
theorem dX1_begin_57 : decode cX1_begin 57 = .ok (.ireturn, 1) := by decide +kernel
theorem dX1_join_0 : decode cX1_join 0 = .ok (.aload_n 0, 1) := by decide +kernel
theorem dX1_join_1 : decode cX1_join 1 = .ok (.iload_n 1, 1) := by decide +kernel
theorem dX1_join_2 : decode cX1_join 2 = .ok (.invokevirtual 36, 3) := by decide +kernel
theorem dX1_join_5 : decode cX1_join 5 = .ok (.ifCond .eq 23, 3) := by decide +kernel
theorem dX1_join_8 : decode cX1_join 8 = .ok (.aload_n 0, 1) := by decide +kernel
theorem dX1_join_9 : decode cX1_join 9 = .ok (.getfield 17, 3) := by decide +kernel
theorem dX1_join_12 : decode cX1_join 12 = .ok (.iload_n 1, 1) := by decide +kernel
theorem dX1_join_13 : decode cX1_join 13 = .ok (.dup2, 1) := by decide +kernel
theorem dX1_join_14 : decode cX1_join 14 = .ok (.iaload, 1) := by decide +kernel
theorem dX1_join_15 : decode cX1_join 15 = .ok (.iconst 1, 1) := by decide +kernel
theorem dX1_join_16 : decode cX1_join 16 = .ok (.iadd, 1) := by decide +kernel
theorem dX1_join_17 : decode cX1_join 17 = .ok (.iastore, 1) := by decide +kernel
theorem dX1_join_18 : decode cX1_join 18 = .ok (.aload_n 0, 1) := by decide +kernel
theorem dX1_join_19 : decode cX1_join 19 = .ok (.getfield 20, 3) := by decide +kernel
theorem dX1_join_22 : decode cX1_join 22 = .ok (.iload_n 1, 1) := by decide +kernel
theorem dX1_join_23 : decode cX1_join 23 = .ok (.dup2, 1) := by decide +kernel
theorem dX1_join_24 : decode cX1_join 24 = .ok (.iaload, 1) := by decide +kernel
theorem dX1_join_25 : decode cX1_join 25 = .ok (.iload_n 2, 1) := by decide +kernel
theorem dX1_join_26 : decode cX1_join 26 = .ok (.iadd, 1) := by decide +kernel
theorem dX1_join_27 : decode cX1_join 27 = .ok (.iastore, 1) := by decide +kernel
theorem dX1_join_28 : decode cX1_join 28 = .ok (.return_, 1) := by decide +kernel
theorem dX1_leave_0 : decode cX1_leave 0 = .ok (.aload_n 0, 1) := by decide +kernel
theorem dX1_leave_1 : decode cX1_leave 1 = .ok (.iload_n 1, 1) := by decide +kernel
theorem dX1_leave_2 : decode cX1_leave 2 = .ok (.invokevirtual 36, 3) := by decide +kernel
theorem dX1_leave_5 : decode cX1_leave 5 = .ok (.ifCond .eq 23, 3) := by decide +kernel
theorem dX1_leave_8 : decode cX1_leave 8 = .ok (.aload_n 0, 1) := by decide +kernel
theorem dX1_leave_9 : decode cX1_leave 9 = .ok (.getfield 17, 3) := by decide +kernel
theorem dX1_leave_12 : decode cX1_leave 12 = .ok (.iload_n 1, 1) := by decide +kernel
theorem dX1_leave_13 : decode cX1_leave 13 = .ok (.dup2, 1) := by decide +kernel
theorem dX1_leave_14 : decode cX1_leave 14 = .ok (.iaload, 1) := by decide +kernel
theorem dX1_leave_15 : decode cX1_leave 15 = .ok (.iconst 1, 1) := by decide +kernel
theorem dX1_leave_16 : decode cX1_leave 16 = .ok (.isub, 1) := by decide +kernel
theorem dX1_leave_17 : decode cX1_leave 17 = .ok (.iastore, 1) := by decide +kernel
theorem dX1_leave_18 : decode cX1_leave 18 = .ok (.aload_n 0, 1) := by decide +kernel
theorem dX1_leave_19 : decode cX1_leave 19 = .ok (.getfield 20, 3) := by decide +kernel
theorem dX1_leave_22 : decode cX1_leave 22 = .ok (.iload_n 1, 1) := by decide +kernel
theorem dX1_leave_23 : decode cX1_leave 23 = .ok (.dup2, 1) := by decide +kernel
theorem dX1_leave_24 : decode cX1_leave 24 = .ok (.iaload, 1) := by decide +kernel
theorem dX1_leave_25 : decode cX1_leave 25 = .ok (.iload_n 2, 1) := by decide +kernel
theorem dX1_leave_26 : decode cX1_leave 26 = .ok (.isub, 1) := by decide +kernel
theorem dX1_leave_27 : decode cX1_leave 27 = .ok (.iastore, 1) := by decide +kernel
theorem dX1_leave_28 : decode cX1_leave 28 = .ok (.return_, 1) := by decide +kernel
theorem dX1_close_0 : decode cX1_close 0 = .ok (.aload_n 0, 1) := by decide +kernel
theorem dX1_close_1 : decode cX1_close 1 = .ok (.iload_n 1, 1) := by decide +kernel
theorem dX1_close_2 : decode cX1_close 2 = .ok (.invokevirtual 36, 3) := by decide +kernel
theorem dX1_close_5 : decode cX1_close 5 = .ok (.ifCond .eq 17, 3) := by decide +kernel
theorem dX1_close_8 : decode cX1_close 8 = .ok (.aload_n 0, 1) := by decide +kernel
theorem dX1_close_9 : decode cX1_close 9 = .ok (.getfield 13, 3) := by decide +kernel
theorem dX1_close_12 : decode cX1_close 12 = .ok (.iload_n 1, 1) := by decide +kernel
theorem dX1_close_13 : decode cX1_close 13 = .ok (.iconst 2, 1) := by decide +kernel
theorem dX1_close_14 : decode cX1_close 14 = .ok (.iastore, 1) := by decide +kernel
theorem dX1_close_15 : decode cX1_close 15 = .ok (.aload_n 0, 1) := by decide +kernel
theorem dX1_close_16 : decode cX1_close 16 = .ok (.getfield 23, 3) := by decide +kernel
theorem dX1_close_19 : decode cX1_close 19 = .ok (.iload_n 1, 1) := by decide +kernel
theorem dX1_close_20 : decode cX1_close 20 = .ok (.iload_n 2, 1) := by decide +kernel
theorem dX1_close_21 : decode cX1_close 21 = .ok (.iastore, 1) := by decide +kernel
theorem dX1_close_22 : decode cX1_close 22 = .ok (.return_, 1) := by decide +kernel
theorem dX1_setState_0 : decode cX1_setState 0 = .ok (.aload_n 0, 1) := by decide +kernel
theorem dX1_setState_1 : decode cX1_setState 1 = .ok (.iload_n 1, 1) := by decide +kernel
theorem dX1_setState_2 : decode cX1_setState 2 = .ok (.invokevirtual 36, 3) := by decide +kernel
theorem dX1_setState_5 : decode cX1_setState 5 = .ok (.ifCond .eq 10, 3) := by decide +kernel
theorem dX1_setState_8 : decode cX1_setState 8 = .ok (.aload_n 0, 1) := by decide +kernel
theorem dX1_setState_9 : decode cX1_setState 9 = .ok (.getfield 13, 3) := by decide +kernel
theorem dX1_setState_12 : decode cX1_setState 12 = .ok (.iload_n 1, 1) := by decide +kernel
theorem dX1_setState_13 : decode cX1_setState 13 = .ok (.iload_n 2, 1) := by decide +kernel
theorem dX1_setState_14 : decode cX1_setState 14 = .ok (.iastore, 1) := by decide +kernel
theorem dX1_setState_15 : decode cX1_setState 15 = .ok (.return_, 1) := by decide +kernel
theorem dX1_stateOf_0 : decode cX1_stateOf 0 = .ok (.aload_n 0, 1) := by decide +kernel
theorem dX1_stateOf_1 : decode cX1_stateOf 1 = .ok (.iload_n 1, 1) := by decide +kernel
theorem dX1_stateOf_2 : decode cX1_stateOf 2 = .ok (.invokevirtual 36, 3) := by decide +kernel
theorem dX1_stateOf_5 : decode cX1_stateOf 5 = .ok (.ifCond .eq 12, 3) := by decide +kernel
theorem dX1_stateOf_8 : decode cX1_stateOf 8 = .ok (.aload_n 0, 1) := by decide +kernel
theorem dX1_stateOf_9 : decode cX1_stateOf 9 = .ok (.getfield 13, 3) := by decide +kernel
theorem dX1_stateOf_12 : decode cX1_stateOf 12 = .ok (.iload_n 1, 1) := by decide +kernel
theorem dX1_stateOf_13 : decode cX1_stateOf 13 = .ok (.iaload, 1) := by decide +kernel
theorem dX1_stateOf_14 : decode cX1_stateOf 14 = .ok (.goto 5, 3) := by decide +kernel
theorem dX1_stateOf_17 : decode cX1_stateOf 17 = .ok (.bipush (-5), 2) := by decide +kernel
theorem dX1_stateOf_19 : decode cX1_stateOf 19 = .ok (.ireturn, 1) := by decide +kernel
theorem dX1_membersOf_0 : decode cX1_membersOf 0 = .ok (.aload_n 0, 1) := by decide +kernel
theorem dX1_membersOf_1 : decode cX1_membersOf 1 = .ok (.iload_n 1, 1) := by decide +kernel
theorem dX1_membersOf_2 : decode cX1_membersOf 2 = .ok (.invokevirtual 36, 3) := by decide +kernel
theorem dX1_membersOf_5 : decode cX1_membersOf 5 = .ok (.ifCond .eq 12, 3) := by decide +kernel
theorem dX1_membersOf_8 : decode cX1_membersOf 8 = .ok (.aload_n 0, 1) := by decide +kernel
theorem dX1_membersOf_9 : decode cX1_membersOf 9 = .ok (.getfield 17, 3) := by decide +kernel
theorem dX1_membersOf_12 : decode cX1_membersOf 12 = .ok (.iload_n 1, 1) := by decide +kernel
theorem dX1_membersOf_13 : decode cX1_membersOf 13 = .ok (.iaload, 1) := by decide +kernel
theorem dX1_membersOf_14 : decode cX1_membersOf 14 = .ok (.goto 4, 3) := by decide +kernel
theorem dX1_membersOf_17 : decode cX1_membersOf 17 = .ok (.iconst 0, 1) := by decide +kernel
theorem dX1_membersOf_18 : decode cX1_membersOf 18 = .ok (.ireturn, 1) := by decide +kernel
theorem dX1_recordsOf_0 : decode cX1_recordsOf 0 = .ok (.aload_n 0, 1) := by decide +kernel
theorem dX1_recordsOf_1 : decode cX1_recordsOf 1 = .ok (.iload_n 1, 1) := by decide +kernel
theorem dX1_recordsOf_2 : decode cX1_recordsOf 2 = .ok (.invokevirtual 36, 3) := by decide +kernel
theorem dX1_recordsOf_5 : decode cX1_recordsOf 5 = .ok (.ifCond .eq 12, 3) := by decide +kernel
theorem dX1_recordsOf_8 : decode cX1_recordsOf 8 = .ok (.aload_n 0, 1) := by decide +kernel
theorem dX1_recordsOf_9 : decode cX1_recordsOf 9 = .ok (.getfield 20, 3) := by decide +kernel
theorem dX1_recordsOf_12 : decode cX1_recordsOf 12 = .ok (.iload_n 1, 1) := by decide +kernel
theorem dX1_recordsOf_13 : decode cX1_recordsOf 13 = .ok (.iaload, 1) := by decide +kernel
theorem dX1_recordsOf_14 : decode cX1_recordsOf 14 = .ok (.goto 4, 3) := by decide +kernel
theorem dX1_recordsOf_17 : decode cX1_recordsOf 17 = .ok (.iconst 0, 1) := by decide +kernel
theorem dX1_recordsOf_18 : decode cX1_recordsOf 18 = .ok (.ireturn, 1) := by decide +kernel
theorem dX1_reasonOf_0 : decode cX1_reasonOf 0 = .ok (.aload_n 0, 1) := by decide +kernel
theorem dX1_reasonOf_1 : decode cX1_reasonOf 1 = .ok (.iload_n 1, 1) := by decide +kernel
theorem dX1_reasonOf_2 : decode cX1_reasonOf 2 = .ok (.invokevirtual 36, 3) := by decide +kernel
theorem dX1_reasonOf_5 : decode cX1_reasonOf 5 = .ok (.ifCond .eq 12, 3) := by decide +kernel
theorem dX1_reasonOf_8 : decode cX1_reasonOf 8 = .ok (.aload_n 0, 1) := by decide +kernel
theorem dX1_reasonOf_9 : decode cX1_reasonOf 9 = .ok (.getfield 23, 3) := by decide +kernel
theorem dX1_reasonOf_12 : decode cX1_reasonOf 12 = .ok (.iload_n 1, 1) := by decide +kernel
theorem dX1_reasonOf_13 : decode cX1_reasonOf 13 = .ok (.iaload, 1) := by decide +kernel
theorem dX1_reasonOf_14 : decode cX1_reasonOf 14 = .ok (.goto 4, 3) := by decide +kernel
theorem dX1_reasonOf_17 : decode cX1_reasonOf 17 = .ok (.iconst 0, 1) := by decide +kernel
theorem dX1_reasonOf_18 : decode cX1_reasonOf 18 = .ok (.ireturn, 1) := by decide +kernel
theorem dX2_init_0 : decode cX2_init 0 = .ok (.aload_n 0, 1) := by decide +kernel
theorem dX2_init_1 : decode cX2_init 1 = .ok (.invokespecial 3, 3) := by decide +kernel
theorem dX2_init_4 : decode cX2_init 4 = .ok (.aload_n 0, 1) := by decide +kernel
theorem dX2_init_5 : decode cX2_init 5 = .ok (.iconst 4, 1) := by decide +kernel
theorem dX2_init_6 : decode cX2_init 6 = .ok (.anewarray 11, 3) := by decide +kernel
theorem dX2_init_9 : decode cX2_init 9 = .ok (.putfield 13, 3) := by decide +kernel
theorem dX2_init_12 : decode cX2_init 12 = .ok (.iconst 0, 1) := by decide +kernel
theorem dX2_init_13 : decode cX2_init 13 = .ok (.istore_n 1, 1) := by decide +kernel
theorem dX2_init_14 : decode cX2_init 14 = .ok (.iload_n 1, 1) := by decide +kernel
theorem dX2_init_15 : decode cX2_init 15 = .ok (.iconst 4, 1) := by decide +kernel
theorem dX2_init_16 : decode cX2_init 16 = .ok (.if_icmp .ge 22, 3) := by decide +kernel
theorem dX2_init_19 : decode cX2_init 19 = .ok (.aload_n 0, 1) := by decide +kernel
theorem dX2_init_20 : decode cX2_init 20 = .ok (.getfield 13, 3) := by decide +kernel
theorem dX2_init_23 : decode cX2_init 23 = .ok (.iload_n 1, 1) := by decide +kernel
theorem dX2_init_24 : decode cX2_init 24 = .ok (.new 11, 3) := by decide +kernel
theorem dX2_init_27 : decode cX2_init 27 = .ok (.dup, 1) := by decide +kernel
theorem dX2_init_28 : decode cX2_init 28 = .ok (.invokespecial 17, 3) := by decide +kernel
theorem dX2_init_31 : decode cX2_init 31 = .ok (.aastore, 1) := by decide +kernel
theorem dX2_init_32 : decode cX2_init 32 = .ok (.iinc 1 1, 3) := by decide +kernel
theorem dX2_init_35 : decode cX2_init 35 = .ok (.goto (-21), 3) := by decide +kernel
theorem dX2_init_38 : decode cX2_init 38 = .ok (.return_, 1) := by decide +kernel
theorem dX2_size_0 : decode cX2_size 0 = .ok (.aload_n 0, 1) := by decide +kernel
theorem dX2_size_1 : decode cX2_size 1 = .ok (.getfield 18, 3) := by decide +kernel
theorem dX2_size_4 : decode cX2_size 4 = .ok (.ireturn, 1) := by decide +kernel
theorem dX2_push_0 : decode cX2_push 0 = .ok (.aload_n 0, 1) := by decide +kernel
theorem dX2_push_1 : decode cX2_push 1 = .ok (.getfield 18, 3) := by decide +kernel
theorem dX2_push_4 : decode cX2_push 4 = .ok (.iconst 4, 1) := by decide +kernel
theorem dX2_push_5 : decode cX2_push 5 = .ok (.if_icmp .ne 25, 3) := by decide +kernel
theorem dX2_push_8 : decode cX2_push 8 = .ok (.aload_n 0, 1) := by decide +kernel
theorem dX2_push_9 : decode cX2_push 9 = .ok (.aload_n 0, 1) := by decide +kernel
theorem dX2_push_10 : decode cX2_push 10 = .ok (.getfield 22, 3) := by decide +kernel
theorem dX2_push_13 : decode cX2_push 13 = .ok (.iconst 1, 1) := by decide +kernel
theorem dX2_push_14 : decode cX2_push 14 = .ok (.iadd, 1) := by decide +kernel
theorem dX2_push_15 : decode cX2_push 15 = .ok (.iconst 4, 1) := by decide +kernel
theorem dX2_push_16 : decode cX2_push 16 = .ok (.irem, 1) := by decide +kernel
theorem dX2_push_17 : decode cX2_push 17 = .ok (.putfield 22, 3) := by decide +kernel
theorem dX2_push_20 : decode cX2_push 20 = .ok (.aload_n 0, 1) := by decide +kernel
theorem dX2_push_21 : decode cX2_push 21 = .ok (.dup, 1) := by decide +kernel
theorem dX2_push_22 : decode cX2_push 22 = .ok (.getfield 18, 3) := by decide +kernel
theorem dX2_push_25 : decode cX2_push 25 = .ok (.iconst 1, 1) := by decide +kernel
theorem dX2_push_26 : decode cX2_push 26 = .ok (.isub, 1) := by decide +kernel
theorem dX2_push_27 : decode cX2_push 27 = .ok (.putfield 18, 3) := by decide +kernel
theorem dX2_push_30 : decode cX2_push 30 = .ok (.aload_n 0, 1) := by decide +kernel
theorem dX2_push_31 : decode cX2_push 31 = .ok (.getfield 13, 3) := by decide +kernel
theorem dX2_push_34 : decode cX2_push 34 = .ok (.aload_n 0, 1) := by decide +kernel
theorem dX2_push_35 : decode cX2_push 35 = .ok (.getfield 22, 3) := by decide +kernel
theorem dX2_push_38 : decode cX2_push 38 = .ok (.aload_n 0, 1) := by decide +kernel
theorem dX2_push_39 : decode cX2_push 39 = .ok (.getfield 18, 3) := by decide +kernel
theorem dX2_push_42 : decode cX2_push 42 = .ok (.iadd, 1) := by decide +kernel
theorem dX2_push_43 : decode cX2_push 43 = .ok (.iconst 4, 1) := by decide +kernel
theorem dX2_push_44 : decode cX2_push 44 = .ok (.irem, 1) := by decide +kernel
theorem dX2_push_45 : decode cX2_push 45 = .ok (.aaload, 1) := by decide +kernel
theorem dX2_push_46 : decode cX2_push 46 = .ok (.aload_n 1, 1) := by decide +kernel
theorem dX2_push_47 : decode cX2_push 47 = .ok (.invokevirtual 25, 3) := by decide +kernel
theorem dX2_push_50 : decode cX2_push 50 = .ok (.aload_n 0, 1) := by decide +kernel
theorem dX2_push_51 : decode cX2_push 51 = .ok (.dup, 1) := by decide +kernel
theorem dX2_push_52 : decode cX2_push 52 = .ok (.getfield 18, 3) := by decide +kernel
theorem dX2_push_55 : decode cX2_push 55 = .ok (.iconst 1, 1) := by decide +kernel
theorem dX2_push_56 : decode cX2_push 56 = .ok (.iadd, 1) := by decide +kernel
theorem dX2_push_57 : decode cX2_push 57 = .ok (.putfield 18, 3) := by decide +kernel
theorem dX2_push_60 : decode cX2_push 60 = .ok (.return_, 1) := by decide +kernel
theorem dX2_popInto_0 : decode cX2_popInto 0 = .ok (.aload_n 0, 1) := by decide +kernel
theorem dX2_popInto_1 : decode cX2_popInto 1 = .ok (.getfield 18, 3) := by decide +kernel
theorem dX2_popInto_4 : decode cX2_popInto 4 = .ok (.ifCond .ne 6, 3) := by decide +kernel
theorem dX2_popInto_7 : decode cX2_popInto 7 = .ok (.bipush (-5), 2) := by decide +kernel
theorem dX2_popInto_9 : decode cX2_popInto 9 = .ok (.ireturn, 1) := by decide +kernel
theorem dX2_popInto_10 : decode cX2_popInto 10 = .ok (.aload_n 0, 1) := by decide +kernel
theorem dX2_popInto_11 : decode cX2_popInto 11 = .ok (.dup, 1) := by decide +kernel
theorem dX2_popInto_12 : decode cX2_popInto 12 = .ok (.getfield 18, 3) := by decide +kernel
theorem dX2_popInto_15 : decode cX2_popInto 15 = .ok (.iconst 1, 1) := by decide +kernel
theorem dX2_popInto_16 : decode cX2_popInto 16 = .ok (.isub, 1) := by decide +kernel
theorem dX2_popInto_17 : decode cX2_popInto 17 = .ok (.putfield 18, 3) := by decide +kernel
theorem dX2_popInto_20 : decode cX2_popInto 20 = .ok (.aload_n 1, 1) := by decide +kernel
theorem dX2_popInto_21 : decode cX2_popInto 21 = .ok (.aload_n 0, 1) := by decide +kernel
theorem dX2_popInto_22 : decode cX2_popInto 22 = .ok (.getfield 13, 3) := by decide +kernel
theorem dX2_popInto_25 : decode cX2_popInto 25 = .ok (.aload_n 0, 1) := by decide +kernel
theorem dX2_popInto_26 : decode cX2_popInto 26 = .ok (.getfield 22, 3) := by decide +kernel
theorem dX2_popInto_29 : decode cX2_popInto 29 = .ok (.aload_n 0, 1) := by decide +kernel
theorem dX2_popInto_30 : decode cX2_popInto 30 = .ok (.getfield 18, 3) := by decide +kernel
theorem dX2_popInto_33 : decode cX2_popInto 33 = .ok (.iadd, 1) := by decide +kernel
theorem dX2_popInto_34 : decode cX2_popInto 34 = .ok (.iconst 4, 1) := by decide +kernel
theorem dX2_popInto_35 : decode cX2_popInto 35 = .ok (.irem, 1) := by decide +kernel
theorem dX2_popInto_36 : decode cX2_popInto 36 = .ok (.aaload, 1) := by decide +kernel
theorem dX2_popInto_37 : decode cX2_popInto 37 = .ok (.invokevirtual 25, 3) := by decide +kernel
theorem dX2_popInto_40 : decode cX2_popInto 40 = .ok (.aload_n 0, 1) := by decide +kernel
theorem dX2_popInto_41 : decode cX2_popInto 41 = .ok (.getfield 18, 3) := by decide +kernel
theorem dX2_popInto_44 : decode cX2_popInto 44 = .ok (.ireturn, 1) := by decide +kernel
theorem dX4_init_0 : decode cX4_init 0 = .ok (.aload_n 0, 1) := by decide +kernel
theorem dX4_init_1 : decode cX4_init 1 = .ok (.invokespecial 5, 3) := by decide +kernel
theorem dX4_init_4 : decode cX4_init 4 = .ok (.aload_n 0, 1) := by decide +kernel
theorem dX4_init_5 : decode cX4_init 5 = .ok (.sipush 150, 3) := by decide +kernel
theorem dX4_init_8 : decode cX4_init 8 = .ok (.newarray .int, 2) := by decide +kernel
theorem dX4_init_10 : decode cX4_init 10 = .ok (.putfield 13, 3) := by decide +kernel
theorem dX4_init_13 : decode cX4_init 13 = .ok (.return_, 1) := by decide +kernel
theorem dX4_copyFrom_0 : decode cX4_copyFrom 0 = .ok (.aload_n 1, 1) := by decide +kernel
theorem dX4_copyFrom_1 : decode cX4_copyFrom 1 = .ok (.getfield 13, 3) := by decide +kernel
theorem dX4_copyFrom_4 : decode cX4_copyFrom 4 = .ok (.iconst 0, 1) := by decide +kernel
theorem dX4_copyFrom_5 : decode cX4_copyFrom 5 = .ok (.aload_n 0, 1) := by decide +kernel
theorem dX4_copyFrom_6 : decode cX4_copyFrom 6 = .ok (.getfield 13, 3) := by decide +kernel
theorem dX4_copyFrom_9 : decode cX4_copyFrom 9 = .ok (.iconst 0, 1) := by decide +kernel
theorem dX4_copyFrom_10 : decode cX4_copyFrom 10 = .ok (.sipush 150, 3) := by decide +kernel
theorem dX4_copyFrom_13 : decode cX4_copyFrom 13 = .ok (.invokestatic 17, 3) := by decide +kernel
theorem dX4_copyFrom_16 : decode cX4_copyFrom 16 = .ok (.aload_n 0, 1) := by decide +kernel
theorem dX4_copyFrom_17 : decode cX4_copyFrom 17 = .ok (.aload_n 1, 1) := by decide +kernel
theorem dX4_copyFrom_18 : decode cX4_copyFrom 18 = .ok (.getfield 23, 3) := by decide +kernel
theorem dX4_copyFrom_21 : decode cX4_copyFrom 21 = .ok (.putfield 23, 3) := by decide +kernel
theorem dX4_copyFrom_24 : decode cX4_copyFrom 24 = .ok (.aload_n 0, 1) := by decide +kernel
theorem dX4_copyFrom_25 : decode cX4_copyFrom 25 = .ok (.aload_n 1, 1) := by decide +kernel
theorem dX4_copyFrom_26 : decode cX4_copyFrom 26 = .ok (.getfield 27, 3) := by decide +kernel
theorem dX4_copyFrom_29 : decode cX4_copyFrom 29 = .ok (.putfield 27, 3) := by decide +kernel
theorem dX4_copyFrom_32 : decode cX4_copyFrom 32 = .ok (.return_, 1) := by decide +kernel
theorem dX4_size_0 : decode cX4_size 0 = .ok (.aload_n 0, 1) := by decide +kernel
theorem dX4_size_1 : decode cX4_size 1 = .ok (.getfield 27, 3) := by decide +kernel
theorem dX4_size_4 : decode cX4_size 4 = .ok (.aload_n 0, 1) := by decide +kernel
theorem dX4_size_5 : decode cX4_size 5 = .ok (.getfield 23, 3) := by decide +kernel
theorem dX4_size_8 : decode cX4_size 8 = .ok (.isub, 1) := by decide +kernel
theorem dX4_size_9 : decode cX4_size 9 = .ok (.ireturn, 1) := by decide +kernel
theorem dX4_add_0 : decode cX4_add 0 = .ok (.aload_n 0, 1) := by decide +kernel
theorem dX4_add_1 : decode cX4_add 1 = .ok (.getfield 27, 3) := by decide +kernel
theorem dX4_add_4 : decode cX4_add 4 = .ok (.sipush 150, 3) := by decide +kernel
theorem dX4_add_7 : decode cX4_add 7 = .ok (.if_icmp .ge 23, 3) := by decide +kernel
theorem dX4_add_10 : decode cX4_add 10 = .ok (.aload_n 0, 1) := by decide +kernel
theorem dX4_add_11 : decode cX4_add 11 = .ok (.getfield 13, 3) := by decide +kernel
theorem dX4_add_14 : decode cX4_add 14 = .ok (.aload_n 0, 1) := by decide +kernel
theorem dX4_add_15 : decode cX4_add 15 = .ok (.getfield 27, 3) := by decide +kernel
theorem dX4_add_18 : decode cX4_add 18 = .ok (.iload_n 1, 1) := by decide +kernel
theorem dX4_add_19 : decode cX4_add 19 = .ok (.iastore, 1) := by decide +kernel
theorem dX4_add_20 : decode cX4_add 20 = .ok (.aload_n 0, 1) := by decide +kernel
theorem dX4_add_21 : decode cX4_add 21 = .ok (.dup, 1) := by decide +kernel
theorem dX4_add_22 : decode cX4_add 22 = .ok (.getfield 27, 3) := by decide +kernel
theorem dX4_add_25 : decode cX4_add 25 = .ok (.iconst 1, 1) := by decide +kernel
theorem dX4_add_26 : decode cX4_add 26 = .ok (.iadd, 1) := by decide +kernel
theorem dX4_add_27 : decode cX4_add 27 = .ok (.putfield 27, 3) := by decide +kernel
theorem dX4_add_30 : decode cX4_add 30 = .ok (.return_, 1) := by decide +kernel
theorem dX4_at_0 : decode cX4_at 0 = .ok (.iload_n 1, 1) := by decide +kernel
theorem dX4_at_1 : decode cX4_at 1 = .ok (.ifCond .lt 25, 3) := by decide +kernel
theorem dX4_at_4 : decode cX4_at 4 = .ok (.iload_n 1, 1) := by decide +kernel
theorem dX4_at_5 : decode cX4_at 5 = .ok (.aload_n 0, 1) := by decide +kernel
theorem dX4_at_6 : decode cX4_at 6 = .ok (.invokevirtual 30, 3) := by decide +kernel
theorem dX4_at_9 : decode cX4_at 9 = .ok (.if_icmp .ge 17, 3) := by decide +kernel
theorem dX4_at_12 : decode cX4_at 12 = .ok (.aload_n 0, 1) := by decide +kernel
theorem dX4_at_13 : decode cX4_at 13 = .ok (.getfield 13, 3) := by decide +kernel
theorem dX4_at_16 : decode cX4_at 16 = .ok (.aload_n 0, 1) := by decide +kernel
theorem dX4_at_17 : decode cX4_at 17 = .ok (.getfield 23, 3) := by decide +kernel
theorem dX4_at_20 : decode cX4_at 20 = .ok (.iload_n 1, 1) := by decide +kernel
theorem dX4_at_21 : decode cX4_at 21 = .ok (.iadd, 1) := by decide +kernel
theorem dX4_at_22 : decode cX4_at 22 = .ok (.iaload, 1) := by decide +kernel
theorem dX4_at_23 : decode cX4_at 23 = .ok (.goto 5, 3) := by decide +kernel
theorem dX4_at_26 : decode cX4_at 26 = .ok (.bipush (-5), 2) := by decide +kernel
theorem dX4_at_28 : decode cX4_at 28 = .ok (.ireturn, 1) := by decide +kernel
theorem dX4_takeFirst_0 : decode cX4_takeFirst 0 = .ok (.aload_n 0, 1) := by decide +kernel
theorem dX4_takeFirst_1 : decode cX4_takeFirst 1 = .ok (.getfield 23, 3) := by decide +kernel
theorem dX4_takeFirst_4 : decode cX4_takeFirst 4 = .ok (.aload_n 0, 1) := by decide +kernel
theorem dX4_takeFirst_5 : decode cX4_takeFirst 5 = .ok (.getfield 27, 3) := by decide +kernel
theorem dX4_takeFirst_8 : decode cX4_takeFirst 8 = .ok (.if_icmp .lt 6, 3) := by decide +kernel
theorem dX4_takeFirst_11 : decode cX4_takeFirst 11 = .ok (.bipush (-5), 2) := by decide +kernel
theorem dX4_takeFirst_13 : decode cX4_takeFirst 13 = .ok (.ireturn, 1) := by decide +kernel
theorem dX4_takeFirst_14 : decode cX4_takeFirst 14 = .ok (.aload_n 0, 1) := by decide +kernel
theorem dX4_takeFirst_15 : decode cX4_takeFirst 15 = .ok (.getfield 13, 3) := by decide +kernel
theorem dX4_takeFirst_18 : decode cX4_takeFirst 18 = .ok (.aload_n 0, 1) := by decide +kernel
theorem dX4_takeFirst_19 : decode cX4_takeFirst 19 = .ok (.getfield 23, 3) := by decide +kernel
theorem dX4_takeFirst_22 : decode cX4_takeFirst 22 = .ok (.iaload, 1) := by decide +kernel
theorem dX4_takeFirst_23 : decode cX4_takeFirst 23 = .ok (.istore_n 1, 1) := by decide +kernel
theorem dX4_takeFirst_24 : decode cX4_takeFirst 24 = .ok (.aload_n 0, 1) := by decide +kernel
theorem dX4_takeFirst_25 : decode cX4_takeFirst 25 = .ok (.dup, 1) := by decide +kernel
theorem dX4_takeFirst_26 : decode cX4_takeFirst 26 = .ok (.getfield 23, 3) := by decide +kernel
theorem dX4_takeFirst_29 : decode cX4_takeFirst 29 = .ok (.iconst 1, 1) := by decide +kernel
theorem dX4_takeFirst_30 : decode cX4_takeFirst 30 = .ok (.iadd, 1) := by decide +kernel
theorem dX4_takeFirst_31 : decode cX4_takeFirst 31 = .ok (.putfield 23, 3) := by decide +kernel
theorem dX4_takeFirst_34 : decode cX4_takeFirst 34 = .ok (.iload_n 1, 1) := by decide +kernel
theorem dX4_takeFirst_35 : decode cX4_takeFirst 35 = .ok (.ireturn, 1) := by decide +kernel
theorem dX6_init_0 : decode cX6_init 0 = .ok (.aload_n 0, 1) := by decide +kernel
theorem dX6_init_1 : decode cX6_init 1 = .ok (.invokespecial 3, 3) := by decide +kernel
theorem dX6_init_4 : decode cX6_init 4 = .ok (.aload_n 0, 1) := by decide +kernel
theorem dX6_init_5 : decode cX6_init 5 = .ok (.iconst 4, 1) := by decide +kernel
theorem dX6_init_6 : decode cX6_init 6 = .ok (.newarray .int, 2) := by decide +kernel
theorem dX6_init_8 : decode cX6_init 8 = .ok (.putfield 11, 3) := by decide +kernel
theorem dX6_init_11 : decode cX6_init 11 = .ok (.getstatic 15, 3) := by decide +kernel
theorem dX6_init_14 : decode cX6_init 14 = .ok (.iconst 0, 1) := by decide +kernel
theorem dX6_init_15 : decode cX6_init 15 = .ok (.aload_n 0, 1) := by decide +kernel
theorem dX6_init_16 : decode cX6_init 16 = .ok (.getfield 11, 3) := by decide +kernel
theorem dX6_init_19 : decode cX6_init 19 = .ok (.iconst 0, 1) := by decide +kernel
theorem dX6_init_20 : decode cX6_init 20 = .ok (.iconst 4, 1) := by decide +kernel
theorem dX6_init_21 : decode cX6_init 21 = .ok (.invokestatic 18, 3) := by decide +kernel
theorem dX6_init_24 : decode cX6_init 24 = .ok (.return_, 1) := by decide +kernel
theorem dX6_copyFrom_0 : decode cX6_copyFrom 0 = .ok (.aload_n 1, 1) := by decide +kernel
theorem dX6_copyFrom_1 : decode cX6_copyFrom 1 = .ok (.getfield 11, 3) := by decide +kernel
theorem dX6_copyFrom_4 : decode cX6_copyFrom 4 = .ok (.iconst 0, 1) := by decide +kernel
theorem dX6_copyFrom_5 : decode cX6_copyFrom 5 = .ok (.aload_n 0, 1) := by decide +kernel
theorem dX6_copyFrom_6 : decode cX6_copyFrom 6 = .ok (.getfield 11, 3) := by decide +kernel
theorem dX6_copyFrom_9 : decode cX6_copyFrom 9 = .ok (.iconst 0, 1) := by decide +kernel
theorem dX6_copyFrom_10 : decode cX6_copyFrom 10 = .ok (.iconst 4, 1) := by decide +kernel
theorem dX6_copyFrom_11 : decode cX6_copyFrom 11 = .ok (.invokestatic 18, 3) := by decide +kernel
theorem dX6_copyFrom_14 : decode cX6_copyFrom 14 = .ok (.return_, 1) := by decide +kernel
theorem dX6_refusal_0 : decode cX6_refusal 0 = .ok (.iload_n 0, 1) := by decide +kernel
theorem dX6_refusal_1 : decode cX6_refusal 1 = .ok (.ifCond .lt 8, 3) := by decide +kernel
theorem dX6_refusal_4 : decode cX6_refusal 4 = .ok (.iload_n 0, 1) := by decide +kernel
theorem dX6_refusal_5 : decode cX6_refusal 5 = .ok (.iconst 4, 1) := by decide +kernel
theorem dX6_refusal_6 : decode cX6_refusal 6 = .ok (.if_icmp .lt 5, 3) := by decide +kernel
theorem dX6_refusal_9 : decode cX6_refusal 9 = .ok (.iconst (-1), 1) := by decide +kernel
theorem dX6_refusal_10 : decode cX6_refusal 10 = .ok (.ireturn, 1) := by decide +kernel
theorem dX6_refusal_11 : decode cX6_refusal 11 = .ok (.iload_n 1, 1) := by decide +kernel
theorem dX6_refusal_12 : decode cX6_refusal 12 = .ok (.getstatic 24, 3) := by decide +kernel
theorem dX6_refusal_15 : decode cX6_refusal 15 = .ok (.iload_n 0, 1) := by decide +kernel
theorem dX6_refusal_16 : decode cX6_refusal 16 = .ok (.iaload, 1) := by decide +kernel
theorem dX6_refusal_17 : decode cX6_refusal 17 = .ok (.if_icmp .lt 12, 3) := by decide +kernel
theorem dX6_refusal_20 : decode cX6_refusal 20 = .ok (.iload_n 1, 1) := by decide +kernel
theorem dX6_refusal_21 : decode cX6_refusal 21 = .ok (.getstatic 27, 3) := by decide +kernel
theorem dX6_refusal_24 : decode cX6_refusal 24 = .ok (.iload_n 0, 1) := by decide +kernel
theorem dX6_refusal_25 : decode cX6_refusal 25 = .ok (.iaload, 1) := by decide +kernel
theorem dX6_refusal_26 : decode cX6_refusal 26 = .ok (.if_icmp .le 8, 3) := by decide +kernel
theorem dX6_refusal_29 : decode cX6_refusal 29 = .ok (.bipush (-2), 2) := by decide +kernel
theorem dX6_refusal_31 : decode cX6_refusal 31 = .ok (.goto 4, 3) := by decide +kernel
theorem dX6_refusal_34 : decode cX6_refusal 34 = .ok (.iconst 0, 1) := by decide +kernel
theorem dX6_refusal_35 : decode cX6_refusal 35 = .ok (.ireturn, 1) := by decide +kernel
theorem dX6_valueOf_0 : decode cX6_valueOf 0 = .ok (.iload_n 1, 1) := by decide +kernel
theorem dX6_valueOf_1 : decode cX6_valueOf 1 = .ok (.ifCond .lt 17, 3) := by decide +kernel
theorem dX6_valueOf_4 : decode cX6_valueOf 4 = .ok (.iload_n 1, 1) := by decide +kernel
theorem dX6_valueOf_5 : decode cX6_valueOf 5 = .ok (.iconst 4, 1) := by decide +kernel
theorem dX6_valueOf_6 : decode cX6_valueOf 6 = .ok (.if_icmp .ge 12, 3) := by decide +kernel
theorem dX6_valueOf_9 : decode cX6_valueOf 9 = .ok (.aload_n 0, 1) := by decide +kernel
theorem dX6_valueOf_10 : decode cX6_valueOf 10 = .ok (.getfield 11, 3) := by decide +kernel
theorem dX6_valueOf_13 : decode cX6_valueOf 13 = .ok (.iload_n 1, 1) := by decide +kernel
theorem dX6_valueOf_14 : decode cX6_valueOf 14 = .ok (.iaload, 1) := by decide +kernel
theorem dX6_valueOf_15 : decode cX6_valueOf 15 = .ok (.goto 5, 3) := by decide +kernel
theorem dX6_valueOf_18 : decode cX6_valueOf 18 = .ok (.bipush (-5), 2) := by decide +kernel
theorem dX6_valueOf_20 : decode cX6_valueOf 20 = .ok (.ireturn, 1) := by decide +kernel
theorem dX6_change_0 : decode cX6_change 0 = .ok (.aload_n 0, 1) := by decide +kernel
theorem dX6_change_1 : decode cX6_change 1 = .ok (.iload_n 1, 1) := by decide +kernel
theorem dX6_change_2 : decode cX6_change 2 = .ok (.invokevirtual 30, 3) := by decide +kernel
theorem dX6_change_5 : decode cX6_change 5 = .ok (.istore_n 3, 1) := by decide +kernel
theorem dX6_change_6 : decode cX6_change 6 = .ok (.iload_n 1, 1) := by decide +kernel
theorem dX6_change_7 : decode cX6_change 7 = .ok (.ifCond .lt 15, 3) := by decide +kernel
theorem dX6_change_10 : decode cX6_change 10 = .ok (.iload_n 1, 1) := by decide +kernel
theorem dX6_change_11 : decode cX6_change 11 = .ok (.iconst 4, 1) := by decide +kernel
theorem dX6_change_12 : decode cX6_change 12 = .ok (.if_icmp .ge 10, 3) := by decide +kernel
theorem dX6_change_15 : decode cX6_change 15 = .ok (.aload_n 0, 1) := by decide +kernel
theorem dX6_change_16 : decode cX6_change 16 = .ok (.getfield 11, 3) := by decide +kernel
theorem dX6_change_19 : decode cX6_change 19 = .ok (.iload_n 1, 1) := by decide +kernel
theorem dX6_change_20 : decode cX6_change 20 = .ok (.iload_n 2, 1) := by decide +kernel
theorem dX6_change_21 : decode cX6_change 21 = .ok (.iastore, 1) := by decide +kernel
theorem dX6_change_22 : decode cX6_change 22 = .ok (.iload_n 3, 1) := by decide +kernel
theorem dX6_change_23 : decode cX6_change 23 = .ok (.ireturn, 1) := by decide +kernel
end
section
-- written by wip/gen/gen.py
abbrev rm_X0_isFull : Room := { frames := 0, cells := 0, slots := 0, locals := 0 }
def f_X0_isFull (N : Nat) (X : XT) : Option (Int32 × XT) := if (X 1 8) < 150 then (some (0, X)) else (some (1, X))
set_option maxHeartbeats 4000000 in
set_option maxRecDepth 100000 in
theorem c_X0_isFull (l : Launch) (D : va_G) (a : Nat → Nat) (cy : Nat → ClassId) (hG : m_inj 131 a) (N : Nat) (X : XT) {r0 : Int32} {X0 : XT} (hf0 : f_X0_isFull N X = some (r0, X0)) : Met l yX0_isFull (Cond.code yX0_isFull cX0_isFull 1 (some .boolean) :: m_tbl) rm_X0_isFull (va_Pc [.ref (a 1)] (m_PX D (m_tc cy) (m_WC a cy) (m_ZC a) X)) (m_QI D (m_WC a cy) (m_AC a) r0 X0) 0 0 (m_AC a) := by
  refine m_met (own := RX0) hy_X0_isFull rfl (Nat.le_of_ble_eq_true rfl) (m_wl_D hG _) m_ZC_keep ?_
  intro p e s m args below meth c C ls hl hP hS
  have hx := C.1.1
  have hb := C.1.2.1
  have hl : lv_has ls 1 [(0, .ref (a 1))] := hl
  unfold f_X0_isFull at hf0
  suffices K : ∀ (H : Heap) (locs : List Loc), va_P D vwCl (m_WC a cy X) H → va_S (m_AC a) s.heap H locs → W p l e rm_X0_isFull s m args below meth c H locs 0 0 (MQ below (m_QI D (m_WC a cy) (m_AC a) r0 X0) args s 0 0 (m_AC a)) (F0 m 0 ls []) from K _ _ hP hS
  clear hP hS
  intro H locs hP hS
  refine lv_aload_n hx hb dX0_isFull_0 rfl (lv_at hl 0 rfl) ?_
  refine m_get C hP mC_1 rfl inX0 8 (by decide) wf_X0_43 rfl dX0_isFull_1 ?_
  refine lv_sipush (v := 150) hx hb dX0_isFull_4 (by decide) ?_
  refine lv_icmp_lt (tgt := 14) hx hb dX0_isFull_7 (by decide) (fun c_1 => ?_) (fun c_1 => ?_)
  · have hf2 := m_it c_1 hf0
    clear hf0
    refine lv_iconst (v := 0) hx hb dX0_isFull_14 (by decide) ?_
    exact m_zret C hP hS dX0_isFull_15 (by decide) hf2
  · have hf3 := m_ie c_1 hf0
    clear hf0
    refine lv_iconst (v := 1) hx hb dX0_isFull_10 (by decide) ?_
    refine lv_goto (tgt := 15) hx hb dX0_isFull_11 (by decide) ?_
    exact m_zret C hP hS dX0_isFull_15 (by decide) hf3
abbrev rm_X0_copyFrom : Room := { frames := 1, cells := 0, slots := 0, locals := 40 }
def f_X0_copyFrom (N : Nat) (k1 : Nat) (k2 : Nat) (X : XT) : Option XT := m_nm (m_up X (21 * k1 + 2) (va_cpy (X (21 * k2 + 2)) (X (21 * k1 + 2)) 0 0 150)) fun X_1 => m_nm (m_up X_1 (21 * k1 + 3) (va_cpy (X_1 (21 * k2 + 3)) (X_1 (21 * k1 + 3)) 0 0 150)) fun X_3 => m_gd (∀ i, i < 150 → fits .boolean (.int (X_3 (21 * k2 + 4) i)) = true) <| m_nm (m_up X_3 (21 * k1 + 4) (va_cpy (X_3 (21 * k2 + 4)) (X_3 (21 * k1 + 4)) 0 0 150)) fun X_5 => m_nm (m_up X_5 (21 * k1 + 5) (va_cpy (X_5 (21 * k2 + 5)) (X_5 (21 * k1 + 5)) 0 0 150)) fun X_8 => m_nm (m_up X_8 (21 * k1 + 6) (va_cpy (X_8 (21 * k2 + 6)) (X_8 (21 * k1 + 6)) 0 0 150)) fun X_10 => m_nm (m_up X_10 (21 * k1 + 7) (va_cpy (X_10 (21 * k2 + 7)) (X_10 (21 * k1 + 7)) 0 0 150)) fun X_12 => m_nm (m_up X_12 (21 * k1 + 8) (va_cpy (X_12 (21 * k2 + 8)) (X_12 (21 * k1 + 8)) 0 0 150)) fun X_14 => m_gd (∀ i, i < 150 → fits .boolean (.int (X_14 (21 * k2 + 9) i)) = true) <| m_nm (m_up X_14 (21 * k1 + 9) (va_cpy (X_14 (21 * k2 + 9)) (X_14 (21 * k1 + 9)) 0 0 150)) fun X_16 => m_nm (m_up X_16 (21 * k1 + 1) (upd (X_16 (21 * k1 + 1)) 8 (X_16 (21 * k2 + 1) 8))) fun X_19 => some X_19
set_option maxHeartbeats 4000000 in
set_option maxRecDepth 100000 in
theorem c_X0_copyFrom (l : Launch) (D : va_G) (a : Nat → Nat) (cy : Nat → ClassId) (hG : m_inj 131 a) (N : Nat) (k1 : Nat) (k2 : Nat) (hk1 : k1 < 6) (hk2 : k2 < 6) (X : XT) {X0 : XT} (hf0 : f_X0_copyFrom N k1 k2 X = some X0) : Met l yX0_copyFrom (Cond.code yX0_copyFrom cX0_copyFrom 2 none :: m_tbl) rm_X0_copyFrom (va_Pc [.ref (a (21 * k1 + 1)), .ref (a (21 * k2 + 1))] (m_PX D (m_tc cy) (m_WC a cy) (m_ZC a) X)) (m_QV D (m_WC a cy) (m_AC a) X0) 0 0 (m_AC a) := by
  refine m_met (own := RX0) hy_X0_copyFrom rfl (Nat.le_of_ble_eq_true rfl) (m_wl_D hG _) m_ZC_keep ?_
  intro p e s m args below meth c C ls hl hP hS
  have hx := C.1.1
  have hb := C.1.2.1
  have hl : lv_has ls 2 [(0, .ref (a (21 * k1 + 1))), (1, .ref (a (21 * k2 + 1)))] := hl
  unfold f_X0_copyFrom at hf0
  suffices K : ∀ (H : Heap) (locs : List Loc), va_P D vwCl (m_WC a cy X) H → va_S (m_AC a) s.heap H locs → W p l e rm_X0_copyFrom s m args below meth c H locs 0 0 (MQ below (m_QV D (m_WC a cy) (m_AC a) X0) args s 0 0 (m_AC a)) (F0 m 0 ls []) from K _ _ hP hS
  clear hP hS
  intro H locs hP hS
  refine lv_aload_n hx hb dX0_copyFrom_0 rfl (lv_at hl 1 rfl) ?_
  refine m_get C hP (mK_1 hk2) rfl inX0 0 (by decide) wf_X0_11 rfl dX0_copyFrom_1 ?_
  refine lv_iconst (v := 0) hx hb dX0_copyFrom_4 (by decide) ?_
  refine lv_aload_n hx hb dX0_copyFrom_5 rfl (lv_at hl 0 rfl) ?_
  refine m_get C hP (mK_1 hk1) rfl inX0 0 (by decide) wf_X0_11 rfl dX0_copyFrom_6 ?_
  refine lv_iconst (v := 0) hx hb dX0_copyFrom_9 (by decide) ?_
  refine lv_sipush (v := 150) hx hb dX0_copyFrom_10 (by decide) ?_
  refine m_copy C hP hS hl.1 (mK_2 hk2) (mK_2 hk1) 0 0 rfl rfl rfl wl_X0_37 wnat_arraycopyName wst_arraycopyName wn_java_lang_System (nn := 150) rfl (by decide) (Nat.le_of_ble_eq_true rfl) (Nat.le_of_ble_eq_true rfl) (fun _ _ => rfl) (Nat.le_of_ble_eq_true rfl) (Nat.le_of_ble_eq_true rfl) (mKs_2 hk1) dX0_copyFrom_13 (fun X_1 e_1 H locs hP hS => ?_)
  have hf2 := m_nm_s e_1 hf0
  clear hf0
  refine lv_aload_n hx hb dX0_copyFrom_16 rfl (lv_at hl 1 rfl) ?_
  refine m_get C hP (mK_1 hk2) rfl inX0 1 (by decide) wf_X0_15 rfl dX0_copyFrom_17 ?_
  refine lv_iconst (v := 0) hx hb dX0_copyFrom_20 (by decide) ?_
  refine lv_aload_n hx hb dX0_copyFrom_21 rfl (lv_at hl 0 rfl) ?_
  refine m_get C hP (mK_1 hk1) rfl inX0 1 (by decide) wf_X0_15 rfl dX0_copyFrom_22 ?_
  refine lv_iconst (v := 0) hx hb dX0_copyFrom_25 (by decide) ?_
  refine lv_sipush (v := 150) hx hb dX0_copyFrom_26 (by decide) ?_
  refine m_copy C hP hS hl.1 (mK_3 hk2) (mK_3 hk1) 0 0 rfl rfl rfl wl_X0_37 wnat_arraycopyName wst_arraycopyName wn_java_lang_System (nn := 150) rfl (by decide) (Nat.le_of_ble_eq_true rfl) (Nat.le_of_ble_eq_true rfl) (fun _ _ => rfl) (Nat.le_of_ble_eq_true rfl) (Nat.le_of_ble_eq_true rfl) (mKs_3 hk1) dX0_copyFrom_29 (fun X_3 e_3 H locs hP hS => ?_)
  have hf4 := m_nm_s e_3 hf2
  clear hf2
  refine lv_aload_n hx hb dX0_copyFrom_32 rfl (lv_at hl 1 rfl) ?_
  refine m_get C hP (mK_1 hk2) rfl inX0 2 (by decide) wf_X0_18 rfl dX0_copyFrom_33 ?_
  refine lv_iconst (v := 0) hx hb dX0_copyFrom_36 (by decide) ?_
  refine lv_aload_n hx hb dX0_copyFrom_37 rfl (lv_at hl 0 rfl) ?_
  refine m_get C hP (mK_1 hk1) rfl inX0 2 (by decide) wf_X0_18 rfl dX0_copyFrom_38 ?_
  refine lv_iconst (v := 0) hx hb dX0_copyFrom_41 (by decide) ?_
  refine lv_sipush (v := 150) hx hb dX0_copyFrom_42 (by decide) ?_
  obtain ⟨g_5, hf6⟩ := m_gd_s hf4
  clear hf4
  refine m_copy C hP hS hl.1 (mK_4 hk2) (mK_4 hk1) 1 1 rfl rfl rfl wl_X0_37 wnat_arraycopyName wst_arraycopyName wn_java_lang_System (nn := 150) rfl (by decide) (Nat.le_of_ble_eq_true rfl) (Nat.le_of_ble_eq_true rfl) g_5 (Nat.le_of_ble_eq_true rfl) (Nat.le_of_ble_eq_true rfl) (mKs_4 hk1) dX0_copyFrom_45 (fun X_5 e_5 H locs hP hS => ?_)
  have hf7 := m_nm_s e_5 hf6
  clear hf6
  refine lv_aload_n hx hb dX0_copyFrom_48 rfl (lv_at hl 1 rfl) ?_
  refine m_get C hP (mK_1 hk2) rfl inX0 3 (by decide) wf_X0_22 rfl dX0_copyFrom_49 ?_
  refine lv_iconst (v := 0) hx hb dX0_copyFrom_52 (by decide) ?_
  refine lv_aload_n hx hb dX0_copyFrom_53 rfl (lv_at hl 0 rfl) ?_
  refine m_get C hP (mK_1 hk1) rfl inX0 3 (by decide) wf_X0_22 rfl dX0_copyFrom_54 ?_
  refine lv_iconst (v := 0) hx hb dX0_copyFrom_57 (by decide) ?_
  refine lv_sipush (v := 150) hx hb dX0_copyFrom_58 (by decide) ?_
  refine m_copy C hP hS hl.1 (mK_5 hk2) (mK_5 hk1) 0 0 rfl rfl rfl wl_X0_37 wnat_arraycopyName wst_arraycopyName wn_java_lang_System (nn := 150) rfl (by decide) (Nat.le_of_ble_eq_true rfl) (Nat.le_of_ble_eq_true rfl) (fun _ _ => rfl) (Nat.le_of_ble_eq_true rfl) (Nat.le_of_ble_eq_true rfl) (mKs_5 hk1) dX0_copyFrom_61 (fun X_8 e_8 H locs hP hS => ?_)
  have hf9 := m_nm_s e_8 hf7
  clear hf7
  refine lv_aload_n hx hb dX0_copyFrom_64 rfl (lv_at hl 1 rfl) ?_
  refine m_get C hP (mK_1 hk2) rfl inX0 4 (by decide) wf_X0_25 rfl dX0_copyFrom_65 ?_
  refine lv_iconst (v := 0) hx hb dX0_copyFrom_68 (by decide) ?_
  refine lv_aload_n hx hb dX0_copyFrom_69 rfl (lv_at hl 0 rfl) ?_
  refine m_get C hP (mK_1 hk1) rfl inX0 4 (by decide) wf_X0_25 rfl dX0_copyFrom_70 ?_
  refine lv_iconst (v := 0) hx hb dX0_copyFrom_73 (by decide) ?_
  refine lv_sipush (v := 150) hx hb dX0_copyFrom_74 (by decide) ?_
  refine m_copy C hP hS hl.1 (mK_6 hk2) (mK_6 hk1) 0 0 rfl rfl rfl wl_X0_37 wnat_arraycopyName wst_arraycopyName wn_java_lang_System (nn := 150) rfl (by decide) (Nat.le_of_ble_eq_true rfl) (Nat.le_of_ble_eq_true rfl) (fun _ _ => rfl) (Nat.le_of_ble_eq_true rfl) (Nat.le_of_ble_eq_true rfl) (mKs_6 hk1) dX0_copyFrom_77 (fun X_10 e_10 H locs hP hS => ?_)
  have hf11 := m_nm_s e_10 hf9
  clear hf9
  refine lv_aload_n hx hb dX0_copyFrom_80 rfl (lv_at hl 1 rfl) ?_
  refine m_get C hP (mK_1 hk2) rfl inX0 5 (by decide) wf_X0_28 rfl dX0_copyFrom_81 ?_
  refine lv_iconst (v := 0) hx hb dX0_copyFrom_84 (by decide) ?_
  refine lv_aload_n hx hb dX0_copyFrom_85 rfl (lv_at hl 0 rfl) ?_
  refine m_get C hP (mK_1 hk1) rfl inX0 5 (by decide) wf_X0_28 rfl dX0_copyFrom_86 ?_
  refine lv_iconst (v := 0) hx hb dX0_copyFrom_89 (by decide) ?_
  refine lv_sipush (v := 150) hx hb dX0_copyFrom_90 (by decide) ?_
  refine m_copy C hP hS hl.1 (mK_7 hk2) (mK_7 hk1) 0 0 rfl rfl rfl wl_X0_37 wnat_arraycopyName wst_arraycopyName wn_java_lang_System (nn := 150) rfl (by decide) (Nat.le_of_ble_eq_true rfl) (Nat.le_of_ble_eq_true rfl) (fun _ _ => rfl) (Nat.le_of_ble_eq_true rfl) (Nat.le_of_ble_eq_true rfl) (mKs_7 hk1) dX0_copyFrom_93 (fun X_12 e_12 H locs hP hS => ?_)
  have hf13 := m_nm_s e_12 hf11
  clear hf11
  refine lv_aload_n hx hb dX0_copyFrom_96 rfl (lv_at hl 1 rfl) ?_
  refine m_get C hP (mK_1 hk2) rfl inX0 6 (by decide) wf_X0_31 rfl dX0_copyFrom_97 ?_
  refine lv_iconst (v := 0) hx hb dX0_copyFrom_100 (by decide) ?_
  refine lv_aload_n hx hb dX0_copyFrom_101 rfl (lv_at hl 0 rfl) ?_
  refine m_get C hP (mK_1 hk1) rfl inX0 6 (by decide) wf_X0_31 rfl dX0_copyFrom_102 ?_
  refine lv_iconst (v := 0) hx hb dX0_copyFrom_105 (by decide) ?_
  refine lv_sipush (v := 150) hx hb dX0_copyFrom_106 (by decide) ?_
  refine m_copy C hP hS hl.1 (mK_8 hk2) (mK_8 hk1) 0 0 rfl rfl rfl wl_X0_37 wnat_arraycopyName wst_arraycopyName wn_java_lang_System (nn := 150) rfl (by decide) (Nat.le_of_ble_eq_true rfl) (Nat.le_of_ble_eq_true rfl) (fun _ _ => rfl) (Nat.le_of_ble_eq_true rfl) (Nat.le_of_ble_eq_true rfl) (mKs_8 hk1) dX0_copyFrom_109 (fun X_14 e_14 H locs hP hS => ?_)
  have hf15 := m_nm_s e_14 hf13
  clear hf13
  refine lv_aload_n hx hb dX0_copyFrom_112 rfl (lv_at hl 1 rfl) ?_
  refine m_get C hP (mK_1 hk2) rfl inX0 7 (by decide) wf_X0_34 rfl dX0_copyFrom_113 ?_
  refine lv_iconst (v := 0) hx hb dX0_copyFrom_116 (by decide) ?_
  refine lv_aload_n hx hb dX0_copyFrom_117 rfl (lv_at hl 0 rfl) ?_
  refine m_get C hP (mK_1 hk1) rfl inX0 7 (by decide) wf_X0_34 rfl dX0_copyFrom_118 ?_
  refine lv_iconst (v := 0) hx hb dX0_copyFrom_121 (by decide) ?_
  refine lv_sipush (v := 150) hx hb dX0_copyFrom_122 (by decide) ?_
  obtain ⟨g_16, hf17⟩ := m_gd_s hf15
  clear hf15
  refine m_copy C hP hS hl.1 (mK_9 hk2) (mK_9 hk1) 1 1 rfl rfl rfl wl_X0_37 wnat_arraycopyName wst_arraycopyName wn_java_lang_System (nn := 150) rfl (by decide) (Nat.le_of_ble_eq_true rfl) (Nat.le_of_ble_eq_true rfl) g_16 (Nat.le_of_ble_eq_true rfl) (Nat.le_of_ble_eq_true rfl) (mKs_9 hk1) dX0_copyFrom_125 (fun X_16 e_16 H locs hP hS => ?_)
  have hf18 := m_nm_s e_16 hf17
  clear hf17
  refine lv_aload_n hx hb dX0_copyFrom_128 rfl (lv_at hl 0 rfl) ?_
  refine lv_aload_n hx hb dX0_copyFrom_129 rfl (lv_at hl 1 rfl) ?_
  refine m_get C hP (mK_1 hk2) rfl inX0 8 (by decide) wf_X0_43 rfl dX0_copyFrom_130 ?_
  refine m_put C hP hS (mK_1 hk1) rfl inX0 tyX0_ok nmX0 8 (by decide) wf_X0_43 rfl rfl rfl (Nat.le_of_ble_eq_true rfl) (mK_1_8 hk1) dX0_copyFrom_133 (fun X_19 e_19 H locs hP hS => ?_)
  have hf20 := m_nm_s e_19 hf18
  clear hf18
  exact m_vret C hP hS dX0_copyFrom_136 hf20
abbrev rm_X0_add : Room := { frames := 1, cells := 0, slots := 0, locals := 20 }
def f_X0_add (N : Nat) (v1 : Int32) (v2 : Int32) (v3 : Int32) (v4 : Int32) (v5 : Int32) (X : XT) : Option (Int32 × XT) := m_bi (f_X0_isFull N X) fun r_1 X_1 => if r_1 = 0 then (m_nm ((X_1 1 8) + 1) fun y_6 => m_nm (m_up X_1 1 (upd (X_1 1) 8 y_6)) fun X_8 => m_gd (m_in (X_1 1 8) 150) <| m_nm (m_up X_8 2 (upd (X_8 2) (Int32.toNatClampNeg (X_1 1 8)) v1)) fun X_10 => m_gd (m_in (X_1 1 8) 150) <| m_nm (m_up X_10 3 (upd (X_10 3) (Int32.toNatClampNeg (X_1 1 8)) v2)) fun X_13 => m_gd (m_in (X_1 1 8) 150) <| m_nm (m_up X_13 4 (upd (X_13 4) (Int32.toNatClampNeg (X_1 1 8)) (vp_nar .boolean v3))) fun X_16 => m_gd (m_in (X_1 1 8) 150) <| m_nm (m_up X_16 5 (upd (X_16 5) (Int32.toNatClampNeg (X_1 1 8)) 1)) fun X_19 => m_gd (m_in (X_1 1 8) 150) <| m_nm (m_up X_19 6 (upd (X_19 6) (Int32.toNatClampNeg (X_1 1 8)) v4)) fun X_22 => m_gd (m_in (X_1 1 8) 150) <| m_nm (m_up X_22 7 (upd (X_22 7) (Int32.toNatClampNeg (X_1 1 8)) (-5))) fun X_25 => m_gd (m_in (X_1 1 8) 150) <| m_nm (m_up X_25 8 (upd (X_25 8) (Int32.toNatClampNeg (X_1 1 8)) v5)) fun X_28 => m_gd (m_in (X_1 1 8) 150) <| m_nm (m_up X_28 9 (upd (X_28 9) (Int32.toNatClampNeg (X_1 1 8)) (vp_nar .boolean 1))) fun X_31 => some ((X_1 1 8), X_31)) else (some ((-5), X_1))
set_option maxHeartbeats 4000000 in
set_option maxRecDepth 100000 in
theorem c_X0_add (l : Launch) (D : va_G) (a : Nat → Nat) (cy : Nat → ClassId) (hG : m_inj 131 a) (N : Nat) (v1 : Int32) (v2 : Int32) (v3 : Int32) (v4 : Int32) (v5 : Int32) (X : XT) {r0 : Int32} {X0 : XT} (hf0 : f_X0_add N v1 v2 v3 v4 v5 X = some (r0, X0)) : Met l yX0_add (Cond.code yX0_add cX0_add 7 (some .int) :: m_tbl) rm_X0_add (va_Pc [.ref (a 1), .int v1, .int v2, .int v3, .int v4, .int v5] (m_PX D (m_tc cy) (m_WC a cy) (m_ZC a) X)) (m_QI D (m_WC a cy) (m_AC a) r0 X0) 0 0 (m_AC a) := by
  refine m_met (own := RX0) hy_X0_add rfl (Nat.le_of_ble_eq_true rfl) (m_wl_D hG _) m_ZC_keep ?_
  intro p e s m args below meth c C ls hl hP hS
  have hx := C.1.1
  have hb := C.1.2.1
  have hl : lv_has ls 7 [(0, .ref (a 1)), (1, .int v1), (2, .int v2), (3, .int v3), (4, .int v4), (5, .int v5)] := hl
  unfold f_X0_add at hf0
  suffices K : ∀ (H : Heap) (locs : List Loc), va_P D vwCl (m_WC a cy X) H → va_S (m_AC a) s.heap H locs → W p l e rm_X0_add s m args below meth c H locs 0 0 (MQ below (m_QI D (m_WC a cy) (m_AC a) r0 X0) args s 0 0 (m_AC a)) (F0 m 0 ls []) from K _ _ hP hS
  clear hP hS
  intro H locs hP hS
  refine lv_aload_n hx hb dX0_add_0 rfl (lv_at hl 0 rfl) ?_
  obtain ⟨r_1, X_1, h_1, hf2⟩ := m_bi_s hf0
  clear hf0
  refine m_callVi (q := (RX0, TX0, 9)) C [] [] (c_X0_isFull l D a cy hG N _ h_1) (m_goodV wl_X0_47 wi_X0_isFull ws_X0_isFull wn_X0 wc_X0_isFull) ⟨rfl, rfl⟩ hv_X0_isFull ⟨Nat.le_of_ble_eq_true rfl, Nat.le_of_ble_eq_true rfl⟩ rfl mC_1 hP hS rfl hl.1 rfl (Nat.le_of_ble_eq_true rfl) dX0_add_1 (fun H locs hP hS => ?_)
  refine lv_if_eq (tgt := 10) hx hb dX0_add_4 (by decide) (fun c_3 => ?_) (fun c_3 => ?_)
  · have hf4 := m_it c_3 hf2
    clear hf2
    refine lv_aload_n hx hb dX0_add_10 rfl (lv_at hl 0 rfl) ?_
    refine m_get C hP mC_1 rfl inX0 8 (by decide) wf_X0_43 rfl dX0_add_11 ?_
    refine lv_istore (lv' := [(6, .int (X_1 1 8)), (0, .ref (a 1)), (1, .int v1), (2, .int v2), (3, .int v3), (4, .int v4), (5, .int v5)]) hx hb dX0_add_14 hl (by decide) rfl (fun ls hl => ?_)
    refine lv_aload_n hx hb dX0_add_16 rfl (lv_at hl 1 rfl) ?_
    refine lv_dup hx hb dX0_add_17 rfl ?_
    refine m_get C hP mC_1 rfl inX0 8 (by decide) wf_X0_43 rfl dX0_add_18 ?_
    refine lv_iconst (v := 1) hx hb dX0_add_21 (by decide) ?_
    refine lv_iadd hx hb dX0_add_22 ?_
    refine lv_topi (fun y_6 e_6 => ?_)
    have hf7 := m_nm_s e_6 hf4
    clear hf4
    refine m_put C hP hS mC_1 rfl inX0 tyX0_ok nmX0 8 (by decide) wf_X0_43 rfl rfl rfl (Nat.le_of_ble_eq_true rfl) mC_1_8 dX0_add_23 (fun X_8 e_8 H locs hP hS => ?_)
    have hf9 := m_nm_s e_8 hf7
    clear hf7
    refine lv_aload_n hx hb dX0_add_26 rfl (lv_at hl 1 rfl) ?_
    refine m_get C hP mC_1 rfl inX0 0 (by decide) wf_X0_11 rfl dX0_add_27 ?_
    refine lv_iload hx hb dX0_add_30 (lv_at hl 0 rfl) ?_
    refine lv_iload_n hx hb dX0_add_32 rfl (lv_at hl 2 rfl) ?_
    obtain ⟨g_10, hf11⟩ := m_gd_s hf9
    clear hf9
    refine m_ist C hP hS mC_2 0 rfl g_10 mCs_2 dX0_add_33 (fun X_10 e_10 H locs hP hS => ?_)
    have hf12 := m_nm_s e_10 hf11
    clear hf11
    refine lv_aload_n hx hb dX0_add_34 rfl (lv_at hl 1 rfl) ?_
    refine m_get C hP mC_1 rfl inX0 1 (by decide) wf_X0_15 rfl dX0_add_35 ?_
    refine lv_iload hx hb dX0_add_38 (lv_at hl 0 rfl) ?_
    refine lv_iload_n hx hb dX0_add_40 rfl (lv_at hl 3 rfl) ?_
    obtain ⟨g_13, hf14⟩ := m_gd_s hf12
    clear hf12
    refine m_ist C hP hS mC_3 0 rfl g_13 mCs_3 dX0_add_41 (fun X_13 e_13 H locs hP hS => ?_)
    have hf15 := m_nm_s e_13 hf14
    clear hf14
    refine lv_aload_n hx hb dX0_add_42 rfl (lv_at hl 1 rfl) ?_
    refine m_get C hP mC_1 rfl inX0 2 (by decide) wf_X0_18 rfl dX0_add_43 ?_
    refine lv_iload hx hb dX0_add_46 (lv_at hl 0 rfl) ?_
    refine lv_iload_n hx hb dX0_add_48 rfl (lv_at hl 4 rfl) ?_
    obtain ⟨g_16, hf17⟩ := m_gd_s hf15
    clear hf15
    refine m_zst C hP hS mC_4 1 rfl g_16 mCs_4 dX0_add_49 (fun X_16 e_16 H locs hP hS => ?_)
    have hf18 := m_nm_s e_16 hf17
    clear hf17
    refine lv_aload_n hx hb dX0_add_50 rfl (lv_at hl 1 rfl) ?_
    refine m_get C hP mC_1 rfl inX0 3 (by decide) wf_X0_22 rfl dX0_add_51 ?_
    refine lv_iload hx hb dX0_add_54 (lv_at hl 0 rfl) ?_
    refine lv_iconst (v := 1) hx hb dX0_add_56 (by decide) ?_
    obtain ⟨g_19, hf20⟩ := m_gd_s hf18
    clear hf18
    refine m_ist C hP hS mC_5 0 rfl g_19 mCs_5 dX0_add_57 (fun X_19 e_19 H locs hP hS => ?_)
    have hf21 := m_nm_s e_19 hf20
    clear hf20
    refine lv_aload_n hx hb dX0_add_58 rfl (lv_at hl 1 rfl) ?_
    refine m_get C hP mC_1 rfl inX0 4 (by decide) wf_X0_25 rfl dX0_add_59 ?_
    refine lv_iload hx hb dX0_add_62 (lv_at hl 0 rfl) ?_
    refine lv_iload hx hb dX0_add_64 (lv_at hl 5 rfl) ?_
    obtain ⟨g_22, hf23⟩ := m_gd_s hf21
    clear hf21
    refine m_ist C hP hS mC_6 0 rfl g_22 mCs_6 dX0_add_66 (fun X_22 e_22 H locs hP hS => ?_)
    have hf24 := m_nm_s e_22 hf23
    clear hf23
    refine lv_aload_n hx hb dX0_add_67 rfl (lv_at hl 1 rfl) ?_
    refine m_get C hP mC_1 rfl inX0 5 (by decide) wf_X0_28 rfl dX0_add_68 ?_
    refine lv_iload hx hb dX0_add_71 (lv_at hl 0 rfl) ?_
    refine lv_bipush (v := (-5)) hx hb dX0_add_73 (by decide) ?_
    obtain ⟨g_25, hf26⟩ := m_gd_s hf24
    clear hf24
    refine m_ist C hP hS mC_7 0 rfl g_25 mCs_7 dX0_add_75 (fun X_25 e_25 H locs hP hS => ?_)
    have hf27 := m_nm_s e_25 hf26
    clear hf26
    refine lv_aload_n hx hb dX0_add_76 rfl (lv_at hl 1 rfl) ?_
    refine m_get C hP mC_1 rfl inX0 6 (by decide) wf_X0_31 rfl dX0_add_77 ?_
    refine lv_iload hx hb dX0_add_80 (lv_at hl 0 rfl) ?_
    refine lv_iload hx hb dX0_add_82 (lv_at hl 6 rfl) ?_
    obtain ⟨g_28, hf29⟩ := m_gd_s hf27
    clear hf27
    refine m_ist C hP hS mC_8 0 rfl g_28 mCs_8 dX0_add_84 (fun X_28 e_28 H locs hP hS => ?_)
    have hf30 := m_nm_s e_28 hf29
    clear hf29
    refine lv_aload_n hx hb dX0_add_85 rfl (lv_at hl 1 rfl) ?_
    refine m_get C hP mC_1 rfl inX0 7 (by decide) wf_X0_34 rfl dX0_add_86 ?_
    refine lv_iload hx hb dX0_add_89 (lv_at hl 0 rfl) ?_
    refine lv_iconst (v := 1) hx hb dX0_add_91 (by decide) ?_
    obtain ⟨g_31, hf32⟩ := m_gd_s hf30
    clear hf30
    refine m_zst C hP hS mC_9 1 rfl g_31 mCs_9 dX0_add_92 (fun X_31 e_31 H locs hP hS => ?_)
    have hf33 := m_nm_s e_31 hf32
    clear hf32
    refine lv_iload hx hb dX0_add_93 (lv_at hl 0 rfl) ?_
    exact m_iret C hP hS dX0_add_95 hf33
  · have hf5 := m_ie c_3 hf2
    clear hf2
    refine lv_bipush (v := (-5)) hx hb dX0_add_7 (by decide) ?_
    exact m_iret C hP hS dX0_add_9 hf5
abbrev rm_X0_moveMembers : Room := { frames := 0, cells := 0, slots := 0, locals := 0 }
def f_X0_moveMembers_3 (N : Nat) : Nat → Int32 → Int32 → Int32 → Int32 → XT → Option XT
  | 0, _, _, _, _, _ => none
  | n + 1, v1, v2, v3, v4, X => if (X 1 8) ≤ v4 then (some X) else (m_gd (m_in v4 150) <| m_nm (X 9 (Int32.toNatClampNeg v4)) fun y_4 => if y_4 = 0 then (m_nm (v4 + 1) fun y_10 => f_X0_moveMembers_3 N n v1 v2 v3 y_10 X) else (m_gd (m_in v4 150) <| m_nm (X 8 (Int32.toNatClampNeg v4)) fun y_12 => if y_12 = v1 then (m_gd (m_in v4 150) <| m_nm (X 5 (Int32.toNatClampNeg v4)) fun y_20 => if y_20 = v2 then (m_gd (m_in v4 150) <| m_nm (m_up X 5 (upd (X 5) (Int32.toNatClampNeg v4) v3)) fun X_28 => m_nm (v4 + 1) fun y_31 => f_X0_moveMembers_3 N n v1 v2 v3 y_31 X_28) else (m_nm (v4 + 1) fun y_26 => f_X0_moveMembers_3 N n v1 v2 v3 y_26 X)) else (m_nm (v4 + 1) fun y_18 => f_X0_moveMembers_3 N n v1 v2 v3 y_18 X)))
set_option maxHeartbeats 4000000 in
set_option maxRecDepth 100000 in
theorem w_X0_moveMembers_3 (l : Launch) (D : va_G) (a : Nat → Nat) (cy : Nat → ClassId) (hG : m_inj 131 a) (N : Nat) {p : Program} {e : Env} {s : State} {m : MethodId} {args : Array Value} {below : List Frame} {meth : Method} {c : Code} (C : m_Cx p s m args meth c cX0_moveMembers 5 RX0 none (Cond.code yX0_moveMembers cX0_moveMembers 5 none) D (m_tc cy) (m_AC a) (m_WC a cy) (m_ZC a)) {X0 : XT} : ∀ (n : Nat) (v1 : Int32) (v2 : Int32) (v3 : Int32) (v4 : Int32) (X : XT), f_X0_moveMembers_3 N n v1 v2 v3 v4 X = some X0 → ∀ (H : Heap) (locs : List Loc) (ls : Array Slot), va_P D vwCl (m_WC a cy X) H → va_S (m_AC a) s.heap H locs → lv_has ls 5 [(0, .ref (a 1)), (1, .int v1), (2, .int v2), (3, .int v3), (4, .int v4)] → W p l e rm_X0_moveMembers s m args below meth c H locs 0 0 (MQ below (m_QV D (m_WC a cy) (m_AC a) X0) args s 0 0 (m_AC a)) (F0 m 3 ls []) := by
  have hx := C.1.1
  have hb := C.1.2.1
  intro n
  induction n with
  | zero => intro v1 v2 v3 v4 X hf0; rw [f_X0_moveMembers_3] at hf0; cases hf0
  | succ n ih =>
    intro v1 v2 v3 v4 X hf0 H locs ls hP hS hl
    rw [f_X0_moveMembers_3] at hf0
    refine lv_iload hx hb dX0_moveMembers_3 (lv_at hl 4 rfl) ?_
    refine lv_aload_n hx hb dX0_moveMembers_5 rfl (lv_at hl 0 rfl) ?_
    refine m_get C hP mC_1 rfl inX0 8 (by decide) wf_X0_43 rfl dX0_moveMembers_6 ?_
    refine lv_icmp_ge (tgt := 58) hx hb dX0_moveMembers_9 (by decide) (fun c_1 => ?_) (fun c_1 => ?_)
    · have hf2 := m_it c_1 hf0
      clear hf0
      exact m_vret C hP hS dX0_moveMembers_58 hf2
    · have hf3 := m_ie c_1 hf0
      clear hf0
      refine lv_aload_n hx hb dX0_moveMembers_12 rfl (lv_at hl 0 rfl) ?_
      refine m_get C hP mC_1 rfl inX0 7 (by decide) wf_X0_34 rfl dX0_moveMembers_13 ?_
      refine lv_iload hx hb dX0_moveMembers_16 (lv_at hl 4 rfl) ?_
      obtain ⟨g_4, hf5⟩ := m_gd_s hf3
      clear hf3
      refine m_zld C hP mC_9 1 rfl g_4 dX0_moveMembers_18 (fun y_4 e_4 => ?_)
      have hf6 := m_nm_s e_4 hf5
      clear hf5
      refine lv_if_eq (tgt := 52) hx hb dX0_moveMembers_19 (by decide) (fun c_7 => ?_) (fun c_7 => ?_)
      · have hf8 := m_it c_7 hf6
        clear hf6
        obtain ⟨y_10, e_10⟩ : ∃ y : Int32, y = v4 + 1 := ⟨_, rfl⟩
        refine lv_iinc (v := y_10) (lv' := [(4, .int y_10), (0, .ref (a 1)), (1, .int v1), (2, .int v2), (3, .int v3)]) hx hb dX0_moveMembers_52 hl (k := 4) rfl (by rw [e_10]; rfl) (by decide) rfl (fun ls hl => ?_)
        have hf11 := m_nm_s e_10 hf8
        clear hf8
        refine lv_goto (tgt := 3) hx hb dX0_moveMembers_55 (by decide) ?_
        exact ih _ _ _ _ _ hf11 H locs ls hP hS (lv_sub hl [1, 2, 3, 4, 0] rfl)
      · have hf9 := m_ie c_7 hf6
        clear hf6
        refine lv_aload_n hx hb dX0_moveMembers_22 rfl (lv_at hl 0 rfl) ?_
        refine m_get C hP mC_1 rfl inX0 6 (by decide) wf_X0_31 rfl dX0_moveMembers_23 ?_
        refine lv_iload hx hb dX0_moveMembers_26 (lv_at hl 4 rfl) ?_
        obtain ⟨g_12, hf13⟩ := m_gd_s hf9
        clear hf9
        refine m_ild C hP mC_8 0 rfl g_12 dX0_moveMembers_28 (fun y_12 e_12 => ?_)
        have hf14 := m_nm_s e_12 hf13
        clear hf13
        refine lv_iload_n hx hb dX0_moveMembers_29 rfl (lv_at hl 1 rfl) ?_
        refine lv_icmp_ne (tgt := 52) hx hb dX0_moveMembers_30 (by decide) (fun c_15 => ?_) (fun c_15 => ?_)
        · have hf16 := m_ie c_15 hf14
          clear hf14
          obtain ⟨y_18, e_18⟩ : ∃ y : Int32, y = v4 + 1 := ⟨_, rfl⟩
          refine lv_iinc (v := y_18) (lv' := [(4, .int y_18), (0, .ref (a 1)), (1, .int v1), (2, .int v2), (3, .int v3)]) hx hb dX0_moveMembers_52 hl (k := 4) rfl (by rw [e_18]; rfl) (by decide) rfl (fun ls hl => ?_)
          have hf19 := m_nm_s e_18 hf16
          clear hf16
          refine lv_goto (tgt := 3) hx hb dX0_moveMembers_55 (by decide) ?_
          exact ih _ _ _ _ _ hf19 H locs ls hP hS (lv_sub hl [1, 2, 3, 4, 0] rfl)
        · have hf17 := m_it c_15 hf14
          clear hf14
          refine lv_aload_n hx hb dX0_moveMembers_33 rfl (lv_at hl 0 rfl) ?_
          refine m_get C hP mC_1 rfl inX0 3 (by decide) wf_X0_22 rfl dX0_moveMembers_34 ?_
          refine lv_iload hx hb dX0_moveMembers_37 (lv_at hl 4 rfl) ?_
          obtain ⟨g_20, hf21⟩ := m_gd_s hf17
          clear hf17
          refine m_ild C hP mC_5 0 rfl g_20 dX0_moveMembers_39 (fun y_20 e_20 => ?_)
          have hf22 := m_nm_s e_20 hf21
          clear hf21
          refine lv_iload_n hx hb dX0_moveMembers_40 rfl (lv_at hl 2 rfl) ?_
          refine lv_icmp_ne (tgt := 52) hx hb dX0_moveMembers_41 (by decide) (fun c_23 => ?_) (fun c_23 => ?_)
          · have hf24 := m_ie c_23 hf22
            clear hf22
            obtain ⟨y_26, e_26⟩ : ∃ y : Int32, y = v4 + 1 := ⟨_, rfl⟩
            refine lv_iinc (v := y_26) (lv' := [(4, .int y_26), (0, .ref (a 1)), (1, .int v1), (2, .int v2), (3, .int v3)]) hx hb dX0_moveMembers_52 hl (k := 4) rfl (by rw [e_26]; rfl) (by decide) rfl (fun ls hl => ?_)
            have hf27 := m_nm_s e_26 hf24
            clear hf24
            refine lv_goto (tgt := 3) hx hb dX0_moveMembers_55 (by decide) ?_
            exact ih _ _ _ _ _ hf27 H locs ls hP hS (lv_sub hl [1, 2, 3, 4, 0] rfl)
          · have hf25 := m_it c_23 hf22
            clear hf22
            refine lv_aload_n hx hb dX0_moveMembers_44 rfl (lv_at hl 0 rfl) ?_
            refine m_get C hP mC_1 rfl inX0 3 (by decide) wf_X0_22 rfl dX0_moveMembers_45 ?_
            refine lv_iload hx hb dX0_moveMembers_48 (lv_at hl 4 rfl) ?_
            refine lv_iload_n hx hb dX0_moveMembers_50 rfl (lv_at hl 3 rfl) ?_
            obtain ⟨g_28, hf29⟩ := m_gd_s hf25
            clear hf25
            refine m_ist C hP hS mC_5 0 rfl g_28 mCs_5 dX0_moveMembers_51 (fun X_28 e_28 H locs hP hS => ?_)
            have hf30 := m_nm_s e_28 hf29
            clear hf29
            obtain ⟨y_31, e_31⟩ : ∃ y : Int32, y = v4 + 1 := ⟨_, rfl⟩
            refine lv_iinc (v := y_31) (lv' := [(4, .int y_31), (0, .ref (a 1)), (1, .int v1), (2, .int v2), (3, .int v3)]) hx hb dX0_moveMembers_52 hl (k := 4) rfl (by rw [e_31]; rfl) (by decide) rfl (fun ls hl => ?_)
            have hf32 := m_nm_s e_31 hf30
            clear hf30
            refine lv_goto (tgt := 3) hx hb dX0_moveMembers_55 (by decide) ?_
            exact ih _ _ _ _ _ hf32 H locs ls hP hS (lv_sub hl [1, 2, 3, 4, 0] rfl)
def f_X0_moveMembers (N : Nat) (v1 : Int32) (v2 : Int32) (v3 : Int32) (X : XT) : Option XT := f_X0_moveMembers_3 N N v1 v2 v3 0 X
set_option maxHeartbeats 4000000 in
set_option maxRecDepth 100000 in
theorem c_X0_moveMembers (l : Launch) (D : va_G) (a : Nat → Nat) (cy : Nat → ClassId) (hG : m_inj 131 a) (N : Nat) (v1 : Int32) (v2 : Int32) (v3 : Int32) (X : XT) {X0 : XT} (hf0 : f_X0_moveMembers N v1 v2 v3 X = some X0) : Met l yX0_moveMembers (Cond.code yX0_moveMembers cX0_moveMembers 5 none :: m_tbl) rm_X0_moveMembers (va_Pc [.ref (a 1), .int v1, .int v2, .int v3] (m_PX D (m_tc cy) (m_WC a cy) (m_ZC a) X)) (m_QV D (m_WC a cy) (m_AC a) X0) 0 0 (m_AC a) := by
  refine m_met (own := RX0) hy_X0_moveMembers rfl (Nat.le_of_ble_eq_true rfl) (m_wl_D hG _) m_ZC_keep ?_
  intro p e s m args below meth c C ls hl hP hS
  have hx := C.1.1
  have hb := C.1.2.1
  have hl : lv_has ls 5 [(0, .ref (a 1)), (1, .int v1), (2, .int v2), (3, .int v3)] := hl
  unfold f_X0_moveMembers at hf0
  suffices K : ∀ (H : Heap) (locs : List Loc), va_P D vwCl (m_WC a cy X) H → va_S (m_AC a) s.heap H locs → W p l e rm_X0_moveMembers s m args below meth c H locs 0 0 (MQ below (m_QV D (m_WC a cy) (m_AC a) X0) args s 0 0 (m_AC a)) (F0 m 0 ls []) from K _ _ hP hS
  clear hP hS
  intro H locs hP hS
  refine lv_iconst (v := 0) hx hb dX0_moveMembers_0 (by decide) ?_
  refine lv_istore (lv' := [(4, .int 0), (0, .ref (a 1)), (1, .int v1), (2, .int v2), (3, .int v3)]) hx hb dX0_moveMembers_1 hl (by decide) rfl (fun ls hl => ?_)
  exact w_X0_moveMembers_3 l D a cy hG N C _ _ _ _ _ _ hf0 H locs ls hP hS (lv_sub hl [1, 2, 3, 4, 0] rfl)
abbrev rm_X0_has : Room := { frames := 0, cells := 0, slots := 0, locals := 0 }
def f_X0_has (N : Nat) (v1 : Int32) (X : XT) : Option (Int32 × XT) := if v1 < 0 then (some (0, X)) else (if (X 1 8) ≤ v1 then (some (0, X)) else (some (1, X)))
set_option maxHeartbeats 4000000 in
set_option maxRecDepth 100000 in
theorem c_X0_has (l : Launch) (D : va_G) (a : Nat → Nat) (cy : Nat → ClassId) (hG : m_inj 131 a) (N : Nat) (v1 : Int32) (X : XT) {r0 : Int32} {X0 : XT} (hf0 : f_X0_has N v1 X = some (r0, X0)) : Met l yX0_has (Cond.code yX0_has cX0_has 2 (some .boolean) :: m_tbl) rm_X0_has (va_Pc [.ref (a 1), .int v1] (m_PX D (m_tc cy) (m_WC a cy) (m_ZC a) X)) (m_QI D (m_WC a cy) (m_AC a) r0 X0) 0 0 (m_AC a) := by
  refine m_met (own := RX0) hy_X0_has rfl (Nat.le_of_ble_eq_true rfl) (m_wl_D hG _) m_ZC_keep ?_
  intro p e s m args below meth c C ls hl hP hS
  have hx := C.1.1
  have hb := C.1.2.1
  have hl : lv_has ls 2 [(0, .ref (a 1)), (1, .int v1)] := hl
  unfold f_X0_has at hf0
  suffices K : ∀ (H : Heap) (locs : List Loc), va_P D vwCl (m_WC a cy X) H → va_S (m_AC a) s.heap H locs → W p l e rm_X0_has s m args below meth c H locs 0 0 (MQ below (m_QI D (m_WC a cy) (m_AC a) r0 X0) args s 0 0 (m_AC a)) (F0 m 0 ls []) from K _ _ hP hS
  clear hP hS
  intro H locs hP hS
  refine lv_iload_n hx hb dX0_has_0 rfl (lv_at hl 1 rfl) ?_
  refine lv_if_lt (tgt := 16) hx hb dX0_has_1 (by decide) (fun c_1 => ?_) (fun c_1 => ?_)
  · have hf2 := m_it c_1 hf0
    clear hf0
    refine lv_iconst (v := 0) hx hb dX0_has_16 (by decide) ?_
    exact m_zret C hP hS dX0_has_17 (by decide) hf2
  · have hf3 := m_ie c_1 hf0
    clear hf0
    refine lv_iload_n hx hb dX0_has_4 rfl (lv_at hl 1 rfl) ?_
    refine lv_aload_n hx hb dX0_has_5 rfl (lv_at hl 0 rfl) ?_
    refine m_get C hP mC_1 rfl inX0 8 (by decide) wf_X0_43 rfl dX0_has_6 ?_
    refine lv_icmp_ge (tgt := 16) hx hb dX0_has_9 (by decide) (fun c_4 => ?_) (fun c_4 => ?_)
    · have hf5 := m_it c_4 hf3
      clear hf3
      refine lv_iconst (v := 0) hx hb dX0_has_16 (by decide) ?_
      exact m_zret C hP hS dX0_has_17 (by decide) hf5
    · have hf6 := m_ie c_4 hf3
      clear hf3
      refine lv_iconst (v := 1) hx hb dX0_has_12 (by decide) ?_
      refine lv_goto (tgt := 17) hx hb dX0_has_13 (by decide) ?_
      exact m_zret C hP hS dX0_has_17 (by decide) hf6
abbrev rm_X0_stateOf : Room := { frames := 1, cells := 0, slots := 0, locals := 21 }
def f_X0_stateOf (N : Nat) (v1 : Int32) (X : XT) : Option (Int32 × XT) := m_bi (f_X0_has N v1 X) fun r_1 X_1 => if r_1 = 0 then (some ((-5), X_1)) else (m_gd (m_in v1 150) <| m_nm (X_1 5 (Int32.toNatClampNeg v1)) fun y_6 => some (y_6, X_1))
set_option maxHeartbeats 4000000 in
set_option maxRecDepth 100000 in
theorem c_X0_stateOf (l : Launch) (D : va_G) (a : Nat → Nat) (cy : Nat → ClassId) (hG : m_inj 131 a) (N : Nat) (v1 : Int32) (X : XT) {r0 : Int32} {X0 : XT} (hf0 : f_X0_stateOf N v1 X = some (r0, X0)) : Met l yX0_stateOf (Cond.code yX0_stateOf cX0_stateOf 2 (some .int) :: m_tbl) rm_X0_stateOf (va_Pc [.ref (a 1), .int v1] (m_PX D (m_tc cy) (m_WC a cy) (m_ZC a) X)) (m_QI D (m_WC a cy) (m_AC a) r0 X0) 0 0 (m_AC a) := by
  refine m_met (own := RX0) hy_X0_stateOf rfl (Nat.le_of_ble_eq_true rfl) (m_wl_D hG _) m_ZC_keep ?_
  intro p e s m args below meth c C ls hl hP hS
  have hx := C.1.1
  have hb := C.1.2.1
  have hl : lv_has ls 2 [(0, .ref (a 1)), (1, .int v1)] := hl
  unfold f_X0_stateOf at hf0
  suffices K : ∀ (H : Heap) (locs : List Loc), va_P D vwCl (m_WC a cy X) H → va_S (m_AC a) s.heap H locs → W p l e rm_X0_stateOf s m args below meth c H locs 0 0 (MQ below (m_QI D (m_WC a cy) (m_AC a) r0 X0) args s 0 0 (m_AC a)) (F0 m 0 ls []) from K _ _ hP hS
  clear hP hS
  intro H locs hP hS
  refine lv_aload_n hx hb dX0_stateOf_0 rfl (lv_at hl 0 rfl) ?_
  refine lv_iload_n hx hb dX0_stateOf_1 rfl (lv_at hl 1 rfl) ?_
  obtain ⟨r_1, X_1, h_1, hf2⟩ := m_bi_s hf0
  clear hf0
  refine m_callVi (q := (RX0, TX0, 9)) C [.int v1] [] (c_X0_has l D a cy hG N _ _ h_1) (m_goodV wl_X0_51 wi_X0_has ws_X0_has wn_X0 wc_X0_has) ⟨rfl, rfl⟩ hv_X0_has ⟨Nat.le_of_ble_eq_true rfl, Nat.le_of_ble_eq_true rfl⟩ rfl mC_1 hP hS rfl hl.1 rfl (Nat.le_of_ble_eq_true rfl) dX0_stateOf_2 (fun H locs hP hS => ?_)
  refine lv_if_eq (tgt := 17) hx hb dX0_stateOf_5 (by decide) (fun c_3 => ?_) (fun c_3 => ?_)
  · have hf4 := m_it c_3 hf2
    clear hf2
    refine lv_bipush (v := (-5)) hx hb dX0_stateOf_17 (by decide) ?_
    exact m_iret C hP hS dX0_stateOf_19 hf4
  · have hf5 := m_ie c_3 hf2
    clear hf2
    refine lv_aload_n hx hb dX0_stateOf_8 rfl (lv_at hl 0 rfl) ?_
    refine m_get C hP mC_1 rfl inX0 3 (by decide) wf_X0_22 rfl dX0_stateOf_9 ?_
    refine lv_iload_n hx hb dX0_stateOf_12 rfl (lv_at hl 1 rfl) ?_
    obtain ⟨g_6, hf7⟩ := m_gd_s hf5
    clear hf5
    refine m_ild C hP mC_5 0 rfl g_6 dX0_stateOf_13 (fun y_6 e_6 => ?_)
    have hf8 := m_nm_s e_6 hf7
    clear hf7
    refine lv_goto (tgt := 19) hx hb dX0_stateOf_14 (by decide) ?_
    exact m_iret C hP hS dX0_stateOf_19 hf8
abbrev rm_X0_memberAt : Room := { frames := 0, cells := 0, slots := 0, locals := 0 }
def f_X0_memberAt_5 (N : Nat) : Nat → Int32 → Int32 → Int32 → Int32 → XT → Option (Int32 × XT)
  | 0, _, _, _, _, _ => none
  | n + 1, v1, v2, v3, v4, X => if (X 1 8) ≤ v4 then (some ((-5), X)) else (m_gd (m_in v4 150) <| m_nm (X 9 (Int32.toNatClampNeg v4)) fun y_4 => if y_4 = 0 then (m_nm (v4 + 1) fun y_10 => f_X0_memberAt_5 N n v1 v2 v3 y_10 X) else (m_gd (m_in v4 150) <| m_nm (X 8 (Int32.toNatClampNeg v4)) fun y_12 => if y_12 = v1 then (if v3 = v2 then (some (v4, X)) else (m_nm (v3 + 1) fun y_23 => m_nm (v4 + 1) fun y_25 => f_X0_memberAt_5 N n v1 v2 y_23 y_25 X)) else (m_nm (v4 + 1) fun y_18 => f_X0_memberAt_5 N n v1 v2 v3 y_18 X)))
set_option maxHeartbeats 4000000 in
set_option maxRecDepth 100000 in
theorem w_X0_memberAt_5 (l : Launch) (D : va_G) (a : Nat → Nat) (cy : Nat → ClassId) (hG : m_inj 131 a) (N : Nat) {p : Program} {e : Env} {s : State} {m : MethodId} {args : Array Value} {below : List Frame} {meth : Method} {c : Code} (C : m_Cx p s m args meth c cX0_memberAt 5 RX0 (some .int) (Cond.code yX0_memberAt cX0_memberAt 5 (some .int)) D (m_tc cy) (m_AC a) (m_WC a cy) (m_ZC a)) {r0 : Int32} {X0 : XT} : ∀ (n : Nat) (v1 : Int32) (v2 : Int32) (v3 : Int32) (v4 : Int32) (X : XT), f_X0_memberAt_5 N n v1 v2 v3 v4 X = some (r0, X0) → ∀ (H : Heap) (locs : List Loc) (ls : Array Slot), va_P D vwCl (m_WC a cy X) H → va_S (m_AC a) s.heap H locs → lv_has ls 5 [(0, .ref (a 1)), (1, .int v1), (2, .int v2), (3, .int v3), (4, .int v4)] → W p l e rm_X0_memberAt s m args below meth c H locs 0 0 (MQ below (m_QI D (m_WC a cy) (m_AC a) r0 X0) args s 0 0 (m_AC a)) (F0 m 5 ls []) := by
  have hx := C.1.1
  have hb := C.1.2.1
  intro n
  induction n with
  | zero => intro v1 v2 v3 v4 X hf0; rw [f_X0_memberAt_5] at hf0; cases hf0
  | succ n ih =>
    intro v1 v2 v3 v4 X hf0 H locs ls hP hS hl
    rw [f_X0_memberAt_5] at hf0
    refine lv_iload hx hb dX0_memberAt_5 (lv_at hl 4 rfl) ?_
    refine lv_aload_n hx hb dX0_memberAt_7 rfl (lv_at hl 0 rfl) ?_
    refine m_get C hP mC_1 rfl inX0 8 (by decide) wf_X0_43 rfl dX0_memberAt_8 ?_
    refine lv_icmp_ge (tgt := 52) hx hb dX0_memberAt_11 (by decide) (fun c_1 => ?_) (fun c_1 => ?_)
    · have hf2 := m_it c_1 hf0
      clear hf0
      refine lv_bipush (v := (-5)) hx hb dX0_memberAt_52 (by decide) ?_
      exact m_iret C hP hS dX0_memberAt_54 hf2
    · have hf3 := m_ie c_1 hf0
      clear hf0
      refine lv_aload_n hx hb dX0_memberAt_14 rfl (lv_at hl 0 rfl) ?_
      refine m_get C hP mC_1 rfl inX0 7 (by decide) wf_X0_34 rfl dX0_memberAt_15 ?_
      refine lv_iload hx hb dX0_memberAt_18 (lv_at hl 4 rfl) ?_
      obtain ⟨g_4, hf5⟩ := m_gd_s hf3
      clear hf3
      refine m_zld C hP mC_9 1 rfl g_4 dX0_memberAt_20 (fun y_4 e_4 => ?_)
      have hf6 := m_nm_s e_4 hf5
      clear hf5
      refine lv_if_eq (tgt := 46) hx hb dX0_memberAt_21 (by decide) (fun c_7 => ?_) (fun c_7 => ?_)
      · have hf8 := m_it c_7 hf6
        clear hf6
        obtain ⟨y_10, e_10⟩ : ∃ y : Int32, y = v4 + 1 := ⟨_, rfl⟩
        refine lv_iinc (v := y_10) (lv' := [(4, .int y_10), (0, .ref (a 1)), (1, .int v1), (2, .int v2), (3, .int v3)]) hx hb dX0_memberAt_46 hl (k := 4) rfl (by rw [e_10]; rfl) (by decide) rfl (fun ls hl => ?_)
        have hf11 := m_nm_s e_10 hf8
        clear hf8
        refine lv_goto (tgt := 5) hx hb dX0_memberAt_49 (by decide) ?_
        exact ih _ _ _ _ _ hf11 H locs ls hP hS (lv_sub hl [1, 2, 3, 4, 0] rfl)
      · have hf9 := m_ie c_7 hf6
        clear hf6
        refine lv_aload_n hx hb dX0_memberAt_24 rfl (lv_at hl 0 rfl) ?_
        refine m_get C hP mC_1 rfl inX0 6 (by decide) wf_X0_31 rfl dX0_memberAt_25 ?_
        refine lv_iload hx hb dX0_memberAt_28 (lv_at hl 4 rfl) ?_
        obtain ⟨g_12, hf13⟩ := m_gd_s hf9
        clear hf9
        refine m_ild C hP mC_8 0 rfl g_12 dX0_memberAt_30 (fun y_12 e_12 => ?_)
        have hf14 := m_nm_s e_12 hf13
        clear hf13
        refine lv_iload_n hx hb dX0_memberAt_31 rfl (lv_at hl 1 rfl) ?_
        refine lv_icmp_ne (tgt := 46) hx hb dX0_memberAt_32 (by decide) (fun c_15 => ?_) (fun c_15 => ?_)
        · have hf16 := m_ie c_15 hf14
          clear hf14
          obtain ⟨y_18, e_18⟩ : ∃ y : Int32, y = v4 + 1 := ⟨_, rfl⟩
          refine lv_iinc (v := y_18) (lv' := [(4, .int y_18), (0, .ref (a 1)), (1, .int v1), (2, .int v2), (3, .int v3)]) hx hb dX0_memberAt_46 hl (k := 4) rfl (by rw [e_18]; rfl) (by decide) rfl (fun ls hl => ?_)
          have hf19 := m_nm_s e_18 hf16
          clear hf16
          refine lv_goto (tgt := 5) hx hb dX0_memberAt_49 (by decide) ?_
          exact ih _ _ _ _ _ hf19 H locs ls hP hS (lv_sub hl [1, 2, 3, 4, 0] rfl)
        · have hf17 := m_it c_15 hf14
          clear hf14
          refine lv_iload_n hx hb dX0_memberAt_35 rfl (lv_at hl 3 rfl) ?_
          refine lv_iload_n hx hb dX0_memberAt_36 rfl (lv_at hl 2 rfl) ?_
          refine lv_icmp_ne (tgt := 43) hx hb dX0_memberAt_37 (by decide) (fun c_20 => ?_) (fun c_20 => ?_)
          · have hf21 := m_ie c_20 hf17
            clear hf17
            obtain ⟨y_23, e_23⟩ : ∃ y : Int32, y = v3 + 1 := ⟨_, rfl⟩
            refine lv_iinc (v := y_23) (lv' := [(3, .int y_23), (0, .ref (a 1)), (1, .int v1), (2, .int v2), (4, .int v4)]) hx hb dX0_memberAt_43 hl (k := 3) rfl (by rw [e_23]; rfl) (by decide) rfl (fun ls hl => ?_)
            have hf24 := m_nm_s e_23 hf21
            clear hf21
            obtain ⟨y_25, e_25⟩ : ∃ y : Int32, y = v4 + 1 := ⟨_, rfl⟩
            refine lv_iinc (v := y_25) (lv' := [(4, .int y_25), (3, .int y_23), (0, .ref (a 1)), (1, .int v1), (2, .int v2)]) hx hb dX0_memberAt_46 hl (k := 4) rfl (by rw [e_25]; rfl) (by decide) rfl (fun ls hl => ?_)
            have hf26 := m_nm_s e_25 hf24
            clear hf24
            refine lv_goto (tgt := 5) hx hb dX0_memberAt_49 (by decide) ?_
            exact ih _ _ _ _ _ hf26 H locs ls hP hS (lv_sub hl [2, 3, 4, 1, 0] rfl)
          · have hf22 := m_it c_20 hf17
            clear hf17
            refine lv_iload hx hb dX0_memberAt_40 (lv_at hl 4 rfl) ?_
            exact m_iret C hP hS dX0_memberAt_42 hf22
def f_X0_memberAt (N : Nat) (v1 : Int32) (v2 : Int32) (X : XT) : Option (Int32 × XT) := f_X0_memberAt_5 N N v1 v2 0 0 X
set_option maxHeartbeats 4000000 in
set_option maxRecDepth 100000 in
theorem c_X0_memberAt (l : Launch) (D : va_G) (a : Nat → Nat) (cy : Nat → ClassId) (hG : m_inj 131 a) (N : Nat) (v1 : Int32) (v2 : Int32) (X : XT) {r0 : Int32} {X0 : XT} (hf0 : f_X0_memberAt N v1 v2 X = some (r0, X0)) : Met l yX0_memberAt (Cond.code yX0_memberAt cX0_memberAt 5 (some .int) :: m_tbl) rm_X0_memberAt (va_Pc [.ref (a 1), .int v1, .int v2] (m_PX D (m_tc cy) (m_WC a cy) (m_ZC a) X)) (m_QI D (m_WC a cy) (m_AC a) r0 X0) 0 0 (m_AC a) := by
  refine m_met (own := RX0) hy_X0_memberAt rfl (Nat.le_of_ble_eq_true rfl) (m_wl_D hG _) m_ZC_keep ?_
  intro p e s m args below meth c C ls hl hP hS
  have hx := C.1.1
  have hb := C.1.2.1
  have hl : lv_has ls 5 [(0, .ref (a 1)), (1, .int v1), (2, .int v2)] := hl
  unfold f_X0_memberAt at hf0
  suffices K : ∀ (H : Heap) (locs : List Loc), va_P D vwCl (m_WC a cy X) H → va_S (m_AC a) s.heap H locs → W p l e rm_X0_memberAt s m args below meth c H locs 0 0 (MQ below (m_QI D (m_WC a cy) (m_AC a) r0 X0) args s 0 0 (m_AC a)) (F0 m 0 ls []) from K _ _ hP hS
  clear hP hS
  intro H locs hP hS
  refine lv_iconst (v := 0) hx hb dX0_memberAt_0 (by decide) ?_
  refine lv_istore_n (lv' := [(3, .int 0), (0, .ref (a 1)), (1, .int v1), (2, .int v2)]) hx hb dX0_memberAt_1 rfl hl (by decide) rfl (fun ls hl => ?_)
  refine lv_iconst (v := 0) hx hb dX0_memberAt_2 (by decide) ?_
  refine lv_istore (lv' := [(4, .int 0), (3, .int 0), (0, .ref (a 1)), (1, .int v1), (2, .int v2)]) hx hb dX0_memberAt_3 hl (by decide) rfl (fun ls hl => ?_)
  exact w_X0_memberAt_5 l D a cy hG N C _ _ _ _ _ _ hf0 H locs ls hP hS (lv_sub hl [2, 3, 4, 1, 0] rfl)
abbrev rm_X0_leaveGroup : Room := { frames := 1, cells := 0, slots := 0, locals := 21 }
def f_X0_leaveGroup (N : Nat) (v1 : Int32) (X : XT) : Option XT := m_bi (f_X0_has N v1 X) fun r_1 X_1 => if r_1 = 0 then (some X_1) else (m_gd (m_in v1 150) <| m_nm (m_up X_1 9 (upd (X_1 9) (Int32.toNatClampNeg v1) (vp_nar .boolean 0))) fun X_6 => some X_6)
set_option maxHeartbeats 4000000 in
set_option maxRecDepth 100000 in
theorem c_X0_leaveGroup (l : Launch) (D : va_G) (a : Nat → Nat) (cy : Nat → ClassId) (hG : m_inj 131 a) (N : Nat) (v1 : Int32) (X : XT) {X0 : XT} (hf0 : f_X0_leaveGroup N v1 X = some X0) : Met l yX0_leaveGroup (Cond.code yX0_leaveGroup cX0_leaveGroup 2 none :: m_tbl) rm_X0_leaveGroup (va_Pc [.ref (a 1), .int v1] (m_PX D (m_tc cy) (m_WC a cy) (m_ZC a) X)) (m_QV D (m_WC a cy) (m_AC a) X0) 0 0 (m_AC a) := by
  refine m_met (own := RX0) hy_X0_leaveGroup rfl (Nat.le_of_ble_eq_true rfl) (m_wl_D hG _) m_ZC_keep ?_
  intro p e s m args below meth c C ls hl hP hS
  have hx := C.1.1
  have hb := C.1.2.1
  have hl : lv_has ls 2 [(0, .ref (a 1)), (1, .int v1)] := hl
  unfold f_X0_leaveGroup at hf0
  suffices K : ∀ (H : Heap) (locs : List Loc), va_P D vwCl (m_WC a cy X) H → va_S (m_AC a) s.heap H locs → W p l e rm_X0_leaveGroup s m args below meth c H locs 0 0 (MQ below (m_QV D (m_WC a cy) (m_AC a) X0) args s 0 0 (m_AC a)) (F0 m 0 ls []) from K _ _ hP hS
  clear hP hS
  intro H locs hP hS
  refine lv_aload_n hx hb dX0_leaveGroup_0 rfl (lv_at hl 0 rfl) ?_
  refine lv_iload_n hx hb dX0_leaveGroup_1 rfl (lv_at hl 1 rfl) ?_
  obtain ⟨r_1, X_1, h_1, hf2⟩ := m_bi_s hf0
  clear hf0
  refine m_callVi (q := (RX0, TX0, 9)) C [.int v1] [] (c_X0_has l D a cy hG N _ _ h_1) (m_goodV wl_X0_51 wi_X0_has ws_X0_has wn_X0 wc_X0_has) ⟨rfl, rfl⟩ hv_X0_has ⟨Nat.le_of_ble_eq_true rfl, Nat.le_of_ble_eq_true rfl⟩ rfl mC_1 hP hS rfl hl.1 rfl (Nat.le_of_ble_eq_true rfl) dX0_leaveGroup_2 (fun H locs hP hS => ?_)
  refine lv_if_eq (tgt := 15) hx hb dX0_leaveGroup_5 (by decide) (fun c_3 => ?_) (fun c_3 => ?_)
  · have hf4 := m_it c_3 hf2
    clear hf2
    exact m_vret C hP hS dX0_leaveGroup_15 hf4
  · have hf5 := m_ie c_3 hf2
    clear hf2
    refine lv_aload_n hx hb dX0_leaveGroup_8 rfl (lv_at hl 0 rfl) ?_
    refine m_get C hP mC_1 rfl inX0 7 (by decide) wf_X0_34 rfl dX0_leaveGroup_9 ?_
    refine lv_iload_n hx hb dX0_leaveGroup_12 rfl (lv_at hl 1 rfl) ?_
    refine lv_iconst (v := 0) hx hb dX0_leaveGroup_13 (by decide) ?_
    obtain ⟨g_6, hf7⟩ := m_gd_s hf5
    clear hf5
    refine m_zst C hP hS mC_9 1 rfl g_6 mCs_9 dX0_leaveGroup_14 (fun X_6 e_6 H locs hP hS => ?_)
    have hf8 := m_nm_s e_6 hf7
    clear hf7
    exact m_vret C hP hS dX0_leaveGroup_15 hf8
abbrev rm_X0_recordsOf : Room := { frames := 1, cells := 0, slots := 0, locals := 21 }
def f_X0_recordsOf (N : Nat) (v1 : Int32) (X : XT) : Option (Int32 × XT) := m_bi (f_X0_has N v1 X) fun r_1 X_1 => if r_1 = 0 then (some (0, X_1)) else (m_gd (m_in v1 150) <| m_nm (X_1 3 (Int32.toNatClampNeg v1)) fun y_6 => some (y_6, X_1))
set_option maxHeartbeats 4000000 in
set_option maxRecDepth 100000 in
theorem c_X0_recordsOf (l : Launch) (D : va_G) (a : Nat → Nat) (cy : Nat → ClassId) (hG : m_inj 131 a) (N : Nat) (v1 : Int32) (X : XT) {r0 : Int32} {X0 : XT} (hf0 : f_X0_recordsOf N v1 X = some (r0, X0)) : Met l yX0_recordsOf (Cond.code yX0_recordsOf cX0_recordsOf 2 (some .int) :: m_tbl) rm_X0_recordsOf (va_Pc [.ref (a 1), .int v1] (m_PX D (m_tc cy) (m_WC a cy) (m_ZC a) X)) (m_QI D (m_WC a cy) (m_AC a) r0 X0) 0 0 (m_AC a) := by
  refine m_met (own := RX0) hy_X0_recordsOf rfl (Nat.le_of_ble_eq_true rfl) (m_wl_D hG _) m_ZC_keep ?_
  intro p e s m args below meth c C ls hl hP hS
  have hx := C.1.1
  have hb := C.1.2.1
  have hl : lv_has ls 2 [(0, .ref (a 1)), (1, .int v1)] := hl
  unfold f_X0_recordsOf at hf0
  suffices K : ∀ (H : Heap) (locs : List Loc), va_P D vwCl (m_WC a cy X) H → va_S (m_AC a) s.heap H locs → W p l e rm_X0_recordsOf s m args below meth c H locs 0 0 (MQ below (m_QI D (m_WC a cy) (m_AC a) r0 X0) args s 0 0 (m_AC a)) (F0 m 0 ls []) from K _ _ hP hS
  clear hP hS
  intro H locs hP hS
  refine lv_aload_n hx hb dX0_recordsOf_0 rfl (lv_at hl 0 rfl) ?_
  refine lv_iload_n hx hb dX0_recordsOf_1 rfl (lv_at hl 1 rfl) ?_
  obtain ⟨r_1, X_1, h_1, hf2⟩ := m_bi_s hf0
  clear hf0
  refine m_callVi (q := (RX0, TX0, 9)) C [.int v1] [] (c_X0_has l D a cy hG N _ _ h_1) (m_goodV wl_X0_51 wi_X0_has ws_X0_has wn_X0 wc_X0_has) ⟨rfl, rfl⟩ hv_X0_has ⟨Nat.le_of_ble_eq_true rfl, Nat.le_of_ble_eq_true rfl⟩ rfl mC_1 hP hS rfl hl.1 rfl (Nat.le_of_ble_eq_true rfl) dX0_recordsOf_2 (fun H locs hP hS => ?_)
  refine lv_if_eq (tgt := 17) hx hb dX0_recordsOf_5 (by decide) (fun c_3 => ?_) (fun c_3 => ?_)
  · have hf4 := m_it c_3 hf2
    clear hf2
    refine lv_iconst (v := 0) hx hb dX0_recordsOf_17 (by decide) ?_
    exact m_iret C hP hS dX0_recordsOf_18 hf4
  · have hf5 := m_ie c_3 hf2
    clear hf2
    refine lv_aload_n hx hb dX0_recordsOf_8 rfl (lv_at hl 0 rfl) ?_
    refine m_get C hP mC_1 rfl inX0 1 (by decide) wf_X0_15 rfl dX0_recordsOf_9 ?_
    refine lv_iload_n hx hb dX0_recordsOf_12 rfl (lv_at hl 1 rfl) ?_
    obtain ⟨g_6, hf7⟩ := m_gd_s hf5
    clear hf5
    refine m_ild C hP mC_3 0 rfl g_6 dX0_recordsOf_13 (fun y_6 e_6 => ?_)
    have hf8 := m_nm_s e_6 hf7
    clear hf7
    refine lv_goto (tgt := 18) hx hb dX0_recordsOf_14 (by decide) ?_
    exact m_iret C hP hS dX0_recordsOf_18 hf8
abbrev rm_X0_setState : Room := { frames := 1, cells := 0, slots := 0, locals := 21 }
def f_X0_setState (N : Nat) (v1 : Int32) (v2 : Int32) (X : XT) : Option XT := m_bi (f_X0_has N v1 X) fun r_1 X_1 => if r_1 = 0 then (some X_1) else (m_gd (m_in v1 150) <| m_nm (m_up X_1 5 (upd (X_1 5) (Int32.toNatClampNeg v1) v2)) fun X_6 => some X_6)
set_option maxHeartbeats 4000000 in
set_option maxRecDepth 100000 in
theorem c_X0_setState (l : Launch) (D : va_G) (a : Nat → Nat) (cy : Nat → ClassId) (hG : m_inj 131 a) (N : Nat) (v1 : Int32) (v2 : Int32) (X : XT) {X0 : XT} (hf0 : f_X0_setState N v1 v2 X = some X0) : Met l yX0_setState (Cond.code yX0_setState cX0_setState 3 none :: m_tbl) rm_X0_setState (va_Pc [.ref (a 1), .int v1, .int v2] (m_PX D (m_tc cy) (m_WC a cy) (m_ZC a) X)) (m_QV D (m_WC a cy) (m_AC a) X0) 0 0 (m_AC a) := by
  refine m_met (own := RX0) hy_X0_setState rfl (Nat.le_of_ble_eq_true rfl) (m_wl_D hG _) m_ZC_keep ?_
  intro p e s m args below meth c C ls hl hP hS
  have hx := C.1.1
  have hb := C.1.2.1
  have hl : lv_has ls 3 [(0, .ref (a 1)), (1, .int v1), (2, .int v2)] := hl
  unfold f_X0_setState at hf0
  suffices K : ∀ (H : Heap) (locs : List Loc), va_P D vwCl (m_WC a cy X) H → va_S (m_AC a) s.heap H locs → W p l e rm_X0_setState s m args below meth c H locs 0 0 (MQ below (m_QV D (m_WC a cy) (m_AC a) X0) args s 0 0 (m_AC a)) (F0 m 0 ls []) from K _ _ hP hS
  clear hP hS
  intro H locs hP hS
  refine lv_aload_n hx hb dX0_setState_0 rfl (lv_at hl 0 rfl) ?_
  refine lv_iload_n hx hb dX0_setState_1 rfl (lv_at hl 1 rfl) ?_
  obtain ⟨r_1, X_1, h_1, hf2⟩ := m_bi_s hf0
  clear hf0
  refine m_callVi (q := (RX0, TX0, 9)) C [.int v1] [] (c_X0_has l D a cy hG N _ _ h_1) (m_goodV wl_X0_51 wi_X0_has ws_X0_has wn_X0 wc_X0_has) ⟨rfl, rfl⟩ hv_X0_has ⟨Nat.le_of_ble_eq_true rfl, Nat.le_of_ble_eq_true rfl⟩ rfl mC_1 hP hS rfl hl.1 rfl (Nat.le_of_ble_eq_true rfl) dX0_setState_2 (fun H locs hP hS => ?_)
  refine lv_if_eq (tgt := 15) hx hb dX0_setState_5 (by decide) (fun c_3 => ?_) (fun c_3 => ?_)
  · have hf4 := m_it c_3 hf2
    clear hf2
    exact m_vret C hP hS dX0_setState_15 hf4
  · have hf5 := m_ie c_3 hf2
    clear hf2
    refine lv_aload_n hx hb dX0_setState_8 rfl (lv_at hl 0 rfl) ?_
    refine m_get C hP mC_1 rfl inX0 3 (by decide) wf_X0_22 rfl dX0_setState_9 ?_
    refine lv_iload_n hx hb dX0_setState_12 rfl (lv_at hl 1 rfl) ?_
    refine lv_iload_n hx hb dX0_setState_13 rfl (lv_at hl 2 rfl) ?_
    obtain ⟨g_6, hf7⟩ := m_gd_s hf5
    clear hf5
    refine m_ist C hP hS mC_5 0 rfl g_6 mCs_5 dX0_setState_14 (fun X_6 e_6 H locs hP hS => ?_)
    have hf8 := m_nm_s e_6 hf7
    clear hf7
    exact m_vret C hP hS dX0_setState_15 hf8
abbrev rm_X0_clientOf : Room := { frames := 1, cells := 0, slots := 0, locals := 21 }
def f_X0_clientOf (N : Nat) (v1 : Int32) (X : XT) : Option (Int32 × XT) := m_bi (f_X0_has N v1 X) fun r_1 X_1 => if r_1 = 0 then (some ((-5), X_1)) else (m_gd (m_in v1 150) <| m_nm (X_1 2 (Int32.toNatClampNeg v1)) fun y_6 => some (y_6, X_1))
set_option maxHeartbeats 4000000 in
set_option maxRecDepth 100000 in
theorem c_X0_clientOf (l : Launch) (D : va_G) (a : Nat → Nat) (cy : Nat → ClassId) (hG : m_inj 131 a) (N : Nat) (v1 : Int32) (X : XT) {r0 : Int32} {X0 : XT} (hf0 : f_X0_clientOf N v1 X = some (r0, X0)) : Met l yX0_clientOf (Cond.code yX0_clientOf cX0_clientOf 2 (some .int) :: m_tbl) rm_X0_clientOf (va_Pc [.ref (a 1), .int v1] (m_PX D (m_tc cy) (m_WC a cy) (m_ZC a) X)) (m_QI D (m_WC a cy) (m_AC a) r0 X0) 0 0 (m_AC a) := by
  refine m_met (own := RX0) hy_X0_clientOf rfl (Nat.le_of_ble_eq_true rfl) (m_wl_D hG _) m_ZC_keep ?_
  intro p e s m args below meth c C ls hl hP hS
  have hx := C.1.1
  have hb := C.1.2.1
  have hl : lv_has ls 2 [(0, .ref (a 1)), (1, .int v1)] := hl
  unfold f_X0_clientOf at hf0
  suffices K : ∀ (H : Heap) (locs : List Loc), va_P D vwCl (m_WC a cy X) H → va_S (m_AC a) s.heap H locs → W p l e rm_X0_clientOf s m args below meth c H locs 0 0 (MQ below (m_QI D (m_WC a cy) (m_AC a) r0 X0) args s 0 0 (m_AC a)) (F0 m 0 ls []) from K _ _ hP hS
  clear hP hS
  intro H locs hP hS
  refine lv_aload_n hx hb dX0_clientOf_0 rfl (lv_at hl 0 rfl) ?_
  refine lv_iload_n hx hb dX0_clientOf_1 rfl (lv_at hl 1 rfl) ?_
  obtain ⟨r_1, X_1, h_1, hf2⟩ := m_bi_s hf0
  clear hf0
  refine m_callVi (q := (RX0, TX0, 9)) C [.int v1] [] (c_X0_has l D a cy hG N _ _ h_1) (m_goodV wl_X0_51 wi_X0_has ws_X0_has wn_X0 wc_X0_has) ⟨rfl, rfl⟩ hv_X0_has ⟨Nat.le_of_ble_eq_true rfl, Nat.le_of_ble_eq_true rfl⟩ rfl mC_1 hP hS rfl hl.1 rfl (Nat.le_of_ble_eq_true rfl) dX0_clientOf_2 (fun H locs hP hS => ?_)
  refine lv_if_eq (tgt := 17) hx hb dX0_clientOf_5 (by decide) (fun c_3 => ?_) (fun c_3 => ?_)
  · have hf4 := m_it c_3 hf2
    clear hf2
    refine lv_bipush (v := (-5)) hx hb dX0_clientOf_17 (by decide) ?_
    exact m_iret C hP hS dX0_clientOf_19 hf4
  · have hf5 := m_ie c_3 hf2
    clear hf2
    refine lv_aload_n hx hb dX0_clientOf_8 rfl (lv_at hl 0 rfl) ?_
    refine m_get C hP mC_1 rfl inX0 0 (by decide) wf_X0_11 rfl dX0_clientOf_9 ?_
    refine lv_iload_n hx hb dX0_clientOf_12 rfl (lv_at hl 1 rfl) ?_
    obtain ⟨g_6, hf7⟩ := m_gd_s hf5
    clear hf5
    refine m_ild C hP mC_2 0 rfl g_6 dX0_clientOf_13 (fun y_6 e_6 => ?_)
    have hf8 := m_nm_s e_6 hf7
    clear hf7
    refine lv_goto (tgt := 19) hx hb dX0_clientOf_14 (by decide) ?_
    exact m_iret C hP hS dX0_clientOf_19 hf8
abbrev rm_X0_groupOf : Room := { frames := 1, cells := 0, slots := 0, locals := 21 }
def f_X0_groupOf (N : Nat) (v1 : Int32) (X : XT) : Option (Int32 × XT) := m_bi (f_X0_has N v1 X) fun r_1 X_1 => if r_1 = 0 then (some ((-5), X_1)) else (m_gd (m_in v1 150) <| m_nm (X_1 8 (Int32.toNatClampNeg v1)) fun y_6 => some (y_6, X_1))
set_option maxHeartbeats 4000000 in
set_option maxRecDepth 100000 in
theorem c_X0_groupOf (l : Launch) (D : va_G) (a : Nat → Nat) (cy : Nat → ClassId) (hG : m_inj 131 a) (N : Nat) (v1 : Int32) (X : XT) {r0 : Int32} {X0 : XT} (hf0 : f_X0_groupOf N v1 X = some (r0, X0)) : Met l yX0_groupOf (Cond.code yX0_groupOf cX0_groupOf 2 (some .int) :: m_tbl) rm_X0_groupOf (va_Pc [.ref (a 1), .int v1] (m_PX D (m_tc cy) (m_WC a cy) (m_ZC a) X)) (m_QI D (m_WC a cy) (m_AC a) r0 X0) 0 0 (m_AC a) := by
  refine m_met (own := RX0) hy_X0_groupOf rfl (Nat.le_of_ble_eq_true rfl) (m_wl_D hG _) m_ZC_keep ?_
  intro p e s m args below meth c C ls hl hP hS
  have hx := C.1.1
  have hb := C.1.2.1
  have hl : lv_has ls 2 [(0, .ref (a 1)), (1, .int v1)] := hl
  unfold f_X0_groupOf at hf0
  suffices K : ∀ (H : Heap) (locs : List Loc), va_P D vwCl (m_WC a cy X) H → va_S (m_AC a) s.heap H locs → W p l e rm_X0_groupOf s m args below meth c H locs 0 0 (MQ below (m_QI D (m_WC a cy) (m_AC a) r0 X0) args s 0 0 (m_AC a)) (F0 m 0 ls []) from K _ _ hP hS
  clear hP hS
  intro H locs hP hS
  refine lv_aload_n hx hb dX0_groupOf_0 rfl (lv_at hl 0 rfl) ?_
  refine lv_iload_n hx hb dX0_groupOf_1 rfl (lv_at hl 1 rfl) ?_
  obtain ⟨r_1, X_1, h_1, hf2⟩ := m_bi_s hf0
  clear hf0
  refine m_callVi (q := (RX0, TX0, 9)) C [.int v1] [] (c_X0_has l D a cy hG N _ _ h_1) (m_goodV wl_X0_51 wi_X0_has ws_X0_has wn_X0 wc_X0_has) ⟨rfl, rfl⟩ hv_X0_has ⟨Nat.le_of_ble_eq_true rfl, Nat.le_of_ble_eq_true rfl⟩ rfl mC_1 hP hS rfl hl.1 rfl (Nat.le_of_ble_eq_true rfl) dX0_groupOf_2 (fun H locs hP hS => ?_)
  refine lv_if_eq (tgt := 17) hx hb dX0_groupOf_5 (by decide) (fun c_3 => ?_) (fun c_3 => ?_)
  · have hf4 := m_it c_3 hf2
    clear hf2
    refine lv_bipush (v := (-5)) hx hb dX0_groupOf_17 (by decide) ?_
    exact m_iret C hP hS dX0_groupOf_19 hf4
  · have hf5 := m_ie c_3 hf2
    clear hf2
    refine lv_aload_n hx hb dX0_groupOf_8 rfl (lv_at hl 0 rfl) ?_
    refine m_get C hP mC_1 rfl inX0 6 (by decide) wf_X0_31 rfl dX0_groupOf_9 ?_
    refine lv_iload_n hx hb dX0_groupOf_12 rfl (lv_at hl 1 rfl) ?_
    obtain ⟨g_6, hf7⟩ := m_gd_s hf5
    clear hf5
    refine m_ild C hP mC_8 0 rfl g_6 dX0_groupOf_13 (fun y_6 e_6 => ?_)
    have hf8 := m_nm_s e_6 hf7
    clear hf7
    refine lv_goto (tgt := 19) hx hb dX0_groupOf_14 (by decide) ?_
    exact m_iret C hP hS dX0_groupOf_19 hf8
abbrev rm_X0_answer : Room := { frames := 1, cells := 0, slots := 0, locals := 21 }
def f_X0_answer (N : Nat) (v1 : Int32) (v2 : Int32) (X : XT) : Option XT := m_bi (f_X0_has N v1 X) fun r_1 X_1 => if r_1 = 0 then (some X_1) else (m_gd (m_in v1 150) <| m_nm (m_up X_1 5 (upd (X_1 5) (Int32.toNatClampNeg v1) 4)) fun X_6 => m_gd (m_in v1 150) <| m_nm (m_up X_6 7 (upd (X_6 7) (Int32.toNatClampNeg v1) v2)) fun X_9 => some X_9)
set_option maxHeartbeats 4000000 in
set_option maxRecDepth 100000 in
theorem c_X0_answer (l : Launch) (D : va_G) (a : Nat → Nat) (cy : Nat → ClassId) (hG : m_inj 131 a) (N : Nat) (v1 : Int32) (v2 : Int32) (X : XT) {X0 : XT} (hf0 : f_X0_answer N v1 v2 X = some X0) : Met l yX0_answer (Cond.code yX0_answer cX0_answer 3 none :: m_tbl) rm_X0_answer (va_Pc [.ref (a 1), .int v1, .int v2] (m_PX D (m_tc cy) (m_WC a cy) (m_ZC a) X)) (m_QV D (m_WC a cy) (m_AC a) X0) 0 0 (m_AC a) := by
  refine m_met (own := RX0) hy_X0_answer rfl (Nat.le_of_ble_eq_true rfl) (m_wl_D hG _) m_ZC_keep ?_
  intro p e s m args below meth c C ls hl hP hS
  have hx := C.1.1
  have hb := C.1.2.1
  have hl : lv_has ls 3 [(0, .ref (a 1)), (1, .int v1), (2, .int v2)] := hl
  unfold f_X0_answer at hf0
  suffices K : ∀ (H : Heap) (locs : List Loc), va_P D vwCl (m_WC a cy X) H → va_S (m_AC a) s.heap H locs → W p l e rm_X0_answer s m args below meth c H locs 0 0 (MQ below (m_QV D (m_WC a cy) (m_AC a) X0) args s 0 0 (m_AC a)) (F0 m 0 ls []) from K _ _ hP hS
  clear hP hS
  intro H locs hP hS
  refine lv_aload_n hx hb dX0_answer_0 rfl (lv_at hl 0 rfl) ?_
  refine lv_iload_n hx hb dX0_answer_1 rfl (lv_at hl 1 rfl) ?_
  obtain ⟨r_1, X_1, h_1, hf2⟩ := m_bi_s hf0
  clear hf0
  refine m_callVi (q := (RX0, TX0, 9)) C [.int v1] [] (c_X0_has l D a cy hG N _ _ h_1) (m_goodV wl_X0_51 wi_X0_has ws_X0_has wn_X0 wc_X0_has) ⟨rfl, rfl⟩ hv_X0_has ⟨Nat.le_of_ble_eq_true rfl, Nat.le_of_ble_eq_true rfl⟩ rfl mC_1 hP hS rfl hl.1 rfl (Nat.le_of_ble_eq_true rfl) dX0_answer_2 (fun H locs hP hS => ?_)
  refine lv_if_eq (tgt := 22) hx hb dX0_answer_5 (by decide) (fun c_3 => ?_) (fun c_3 => ?_)
  · have hf4 := m_it c_3 hf2
    clear hf2
    exact m_vret C hP hS dX0_answer_22 hf4
  · have hf5 := m_ie c_3 hf2
    clear hf2
    refine lv_aload_n hx hb dX0_answer_8 rfl (lv_at hl 0 rfl) ?_
    refine m_get C hP mC_1 rfl inX0 3 (by decide) wf_X0_22 rfl dX0_answer_9 ?_
    refine lv_iload_n hx hb dX0_answer_12 rfl (lv_at hl 1 rfl) ?_
    refine lv_iconst (v := 4) hx hb dX0_answer_13 (by decide) ?_
    obtain ⟨g_6, hf7⟩ := m_gd_s hf5
    clear hf5
    refine m_ist C hP hS mC_5 0 rfl g_6 mCs_5 dX0_answer_14 (fun X_6 e_6 H locs hP hS => ?_)
    have hf8 := m_nm_s e_6 hf7
    clear hf7
    refine lv_aload_n hx hb dX0_answer_15 rfl (lv_at hl 0 rfl) ?_
    refine m_get C hP mC_1 rfl inX0 5 (by decide) wf_X0_28 rfl dX0_answer_16 ?_
    refine lv_iload_n hx hb dX0_answer_19 rfl (lv_at hl 1 rfl) ?_
    refine lv_iload_n hx hb dX0_answer_20 rfl (lv_at hl 2 rfl) ?_
    obtain ⟨g_9, hf10⟩ := m_gd_s hf8
    clear hf8
    refine m_ist C hP hS mC_7 0 rfl g_9 mCs_7 dX0_answer_21 (fun X_9 e_9 H locs hP hS => ?_)
    have hf11 := m_nm_s e_9 hf10
    clear hf10
    exact m_vret C hP hS dX0_answer_22 hf11
abbrev rm_X0_submitTimeOf : Room := { frames := 1, cells := 0, slots := 0, locals := 21 }
def f_X0_submitTimeOf (N : Nat) (v1 : Int32) (X : XT) : Option (Int32 × XT) := m_bi (f_X0_has N v1 X) fun r_1 X_1 => if r_1 = 0 then (some ((-5), X_1)) else (m_gd (m_in v1 150) <| m_nm (X_1 6 (Int32.toNatClampNeg v1)) fun y_6 => some (y_6, X_1))
set_option maxHeartbeats 4000000 in
set_option maxRecDepth 100000 in
theorem c_X0_submitTimeOf (l : Launch) (D : va_G) (a : Nat → Nat) (cy : Nat → ClassId) (hG : m_inj 131 a) (N : Nat) (v1 : Int32) (X : XT) {r0 : Int32} {X0 : XT} (hf0 : f_X0_submitTimeOf N v1 X = some (r0, X0)) : Met l yX0_submitTimeOf (Cond.code yX0_submitTimeOf cX0_submitTimeOf 2 (some .int) :: m_tbl) rm_X0_submitTimeOf (va_Pc [.ref (a 1), .int v1] (m_PX D (m_tc cy) (m_WC a cy) (m_ZC a) X)) (m_QI D (m_WC a cy) (m_AC a) r0 X0) 0 0 (m_AC a) := by
  refine m_met (own := RX0) hy_X0_submitTimeOf rfl (Nat.le_of_ble_eq_true rfl) (m_wl_D hG _) m_ZC_keep ?_
  intro p e s m args below meth c C ls hl hP hS
  have hx := C.1.1
  have hb := C.1.2.1
  have hl : lv_has ls 2 [(0, .ref (a 1)), (1, .int v1)] := hl
  unfold f_X0_submitTimeOf at hf0
  suffices K : ∀ (H : Heap) (locs : List Loc), va_P D vwCl (m_WC a cy X) H → va_S (m_AC a) s.heap H locs → W p l e rm_X0_submitTimeOf s m args below meth c H locs 0 0 (MQ below (m_QI D (m_WC a cy) (m_AC a) r0 X0) args s 0 0 (m_AC a)) (F0 m 0 ls []) from K _ _ hP hS
  clear hP hS
  intro H locs hP hS
  refine lv_aload_n hx hb dX0_submitTimeOf_0 rfl (lv_at hl 0 rfl) ?_
  refine lv_iload_n hx hb dX0_submitTimeOf_1 rfl (lv_at hl 1 rfl) ?_
  obtain ⟨r_1, X_1, h_1, hf2⟩ := m_bi_s hf0
  clear hf0
  refine m_callVi (q := (RX0, TX0, 9)) C [.int v1] [] (c_X0_has l D a cy hG N _ _ h_1) (m_goodV wl_X0_51 wi_X0_has ws_X0_has wn_X0 wc_X0_has) ⟨rfl, rfl⟩ hv_X0_has ⟨Nat.le_of_ble_eq_true rfl, Nat.le_of_ble_eq_true rfl⟩ rfl mC_1 hP hS rfl hl.1 rfl (Nat.le_of_ble_eq_true rfl) dX0_submitTimeOf_2 (fun H locs hP hS => ?_)
  refine lv_if_eq (tgt := 17) hx hb dX0_submitTimeOf_5 (by decide) (fun c_3 => ?_) (fun c_3 => ?_)
  · have hf4 := m_it c_3 hf2
    clear hf2
    refine lv_bipush (v := (-5)) hx hb dX0_submitTimeOf_17 (by decide) ?_
    exact m_iret C hP hS dX0_submitTimeOf_19 hf4
  · have hf5 := m_ie c_3 hf2
    clear hf2
    refine lv_aload_n hx hb dX0_submitTimeOf_8 rfl (lv_at hl 0 rfl) ?_
    refine m_get C hP mC_1 rfl inX0 4 (by decide) wf_X0_25 rfl dX0_submitTimeOf_9 ?_
    refine lv_iload_n hx hb dX0_submitTimeOf_12 rfl (lv_at hl 1 rfl) ?_
    obtain ⟨g_6, hf7⟩ := m_gd_s hf5
    clear hf5
    refine m_ild C hP mC_6 0 rfl g_6 dX0_submitTimeOf_13 (fun y_6 e_6 => ?_)
    have hf8 := m_nm_s e_6 hf7
    clear hf7
    refine lv_goto (tgt := 19) hx hb dX0_submitTimeOf_14 (by decide) ?_
    exact m_iret C hP hS dX0_submitTimeOf_19 hf8
abbrev rm_X0_isUrgent : Room := { frames := 1, cells := 0, slots := 0, locals := 21 }
def f_X0_isUrgent (N : Nat) (v1 : Int32) (X : XT) : Option (Int32 × XT) := m_bi (f_X0_has N v1 X) fun r_1 X_1 => if r_1 = 0 then (some (0, X_1)) else (m_gd (m_in v1 150) <| m_nm (X_1 4 (Int32.toNatClampNeg v1)) fun y_6 => if y_6 = 0 then (some (0, X_1)) else (some (1, X_1)))
set_option maxHeartbeats 4000000 in
set_option maxRecDepth 100000 in
theorem c_X0_isUrgent (l : Launch) (D : va_G) (a : Nat → Nat) (cy : Nat → ClassId) (hG : m_inj 131 a) (N : Nat) (v1 : Int32) (X : XT) {r0 : Int32} {X0 : XT} (hf0 : f_X0_isUrgent N v1 X = some (r0, X0)) : Met l yX0_isUrgent (Cond.code yX0_isUrgent cX0_isUrgent 2 (some .boolean) :: m_tbl) rm_X0_isUrgent (va_Pc [.ref (a 1), .int v1] (m_PX D (m_tc cy) (m_WC a cy) (m_ZC a) X)) (m_QI D (m_WC a cy) (m_AC a) r0 X0) 0 0 (m_AC a) := by
  refine m_met (own := RX0) hy_X0_isUrgent rfl (Nat.le_of_ble_eq_true rfl) (m_wl_D hG _) m_ZC_keep ?_
  intro p e s m args below meth c C ls hl hP hS
  have hx := C.1.1
  have hb := C.1.2.1
  have hl : lv_has ls 2 [(0, .ref (a 1)), (1, .int v1)] := hl
  unfold f_X0_isUrgent at hf0
  suffices K : ∀ (H : Heap) (locs : List Loc), va_P D vwCl (m_WC a cy X) H → va_S (m_AC a) s.heap H locs → W p l e rm_X0_isUrgent s m args below meth c H locs 0 0 (MQ below (m_QI D (m_WC a cy) (m_AC a) r0 X0) args s 0 0 (m_AC a)) (F0 m 0 ls []) from K _ _ hP hS
  clear hP hS
  intro H locs hP hS
  refine lv_aload_n hx hb dX0_isUrgent_0 rfl (lv_at hl 0 rfl) ?_
  refine lv_iload_n hx hb dX0_isUrgent_1 rfl (lv_at hl 1 rfl) ?_
  obtain ⟨r_1, X_1, h_1, hf2⟩ := m_bi_s hf0
  clear hf0
  refine m_callVi (q := (RX0, TX0, 9)) C [.int v1] [] (c_X0_has l D a cy hG N _ _ h_1) (m_goodV wl_X0_51 wi_X0_has ws_X0_has wn_X0 wc_X0_has) ⟨rfl, rfl⟩ hv_X0_has ⟨Nat.le_of_ble_eq_true rfl, Nat.le_of_ble_eq_true rfl⟩ rfl mC_1 hP hS rfl hl.1 rfl (Nat.le_of_ble_eq_true rfl) dX0_isUrgent_2 (fun H locs hP hS => ?_)
  refine lv_if_eq (tgt := 21) hx hb dX0_isUrgent_5 (by decide) (fun c_3 => ?_) (fun c_3 => ?_)
  · have hf4 := m_it c_3 hf2
    clear hf2
    refine lv_iconst (v := 0) hx hb dX0_isUrgent_21 (by decide) ?_
    exact m_zret C hP hS dX0_isUrgent_22 (by decide) hf4
  · have hf5 := m_ie c_3 hf2
    clear hf2
    refine lv_aload_n hx hb dX0_isUrgent_8 rfl (lv_at hl 0 rfl) ?_
    refine m_get C hP mC_1 rfl inX0 2 (by decide) wf_X0_18 rfl dX0_isUrgent_9 ?_
    refine lv_iload_n hx hb dX0_isUrgent_12 rfl (lv_at hl 1 rfl) ?_
    obtain ⟨g_6, hf7⟩ := m_gd_s hf5
    clear hf5
    refine m_zld C hP mC_4 1 rfl g_6 dX0_isUrgent_13 (fun y_6 e_6 => ?_)
    have hf8 := m_nm_s e_6 hf7
    clear hf7
    refine lv_if_eq (tgt := 21) hx hb dX0_isUrgent_14 (by decide) (fun c_9 => ?_) (fun c_9 => ?_)
    · have hf10 := m_it c_9 hf8
      clear hf8
      refine lv_iconst (v := 0) hx hb dX0_isUrgent_21 (by decide) ?_
      exact m_zret C hP hS dX0_isUrgent_22 (by decide) hf10
    · have hf11 := m_ie c_9 hf8
      clear hf8
      refine lv_iconst (v := 1) hx hb dX0_isUrgent_17 (by decide) ?_
      refine lv_goto (tgt := 22) hx hb dX0_isUrgent_18 (by decide) ?_
      exact m_zret C hP hS dX0_isUrgent_22 (by decide) hf11
abbrev rm_X0_answerTimeOf : Room := { frames := 1, cells := 0, slots := 0, locals := 21 }
def f_X0_answerTimeOf (N : Nat) (v1 : Int32) (X : XT) : Option (Int32 × XT) := m_bi (f_X0_has N v1 X) fun r_1 X_1 => if r_1 = 0 then (some ((-5), X_1)) else (m_gd (m_in v1 150) <| m_nm (X_1 7 (Int32.toNatClampNeg v1)) fun y_6 => some (y_6, X_1))
set_option maxHeartbeats 4000000 in
set_option maxRecDepth 100000 in
theorem c_X0_answerTimeOf (l : Launch) (D : va_G) (a : Nat → Nat) (cy : Nat → ClassId) (hG : m_inj 131 a) (N : Nat) (v1 : Int32) (X : XT) {r0 : Int32} {X0 : XT} (hf0 : f_X0_answerTimeOf N v1 X = some (r0, X0)) : Met l yX0_answerTimeOf (Cond.code yX0_answerTimeOf cX0_answerTimeOf 2 (some .int) :: m_tbl) rm_X0_answerTimeOf (va_Pc [.ref (a 1), .int v1] (m_PX D (m_tc cy) (m_WC a cy) (m_ZC a) X)) (m_QI D (m_WC a cy) (m_AC a) r0 X0) 0 0 (m_AC a) := by
  refine m_met (own := RX0) hy_X0_answerTimeOf rfl (Nat.le_of_ble_eq_true rfl) (m_wl_D hG _) m_ZC_keep ?_
  intro p e s m args below meth c C ls hl hP hS
  have hx := C.1.1
  have hb := C.1.2.1
  have hl : lv_has ls 2 [(0, .ref (a 1)), (1, .int v1)] := hl
  unfold f_X0_answerTimeOf at hf0
  suffices K : ∀ (H : Heap) (locs : List Loc), va_P D vwCl (m_WC a cy X) H → va_S (m_AC a) s.heap H locs → W p l e rm_X0_answerTimeOf s m args below meth c H locs 0 0 (MQ below (m_QI D (m_WC a cy) (m_AC a) r0 X0) args s 0 0 (m_AC a)) (F0 m 0 ls []) from K _ _ hP hS
  clear hP hS
  intro H locs hP hS
  refine lv_aload_n hx hb dX0_answerTimeOf_0 rfl (lv_at hl 0 rfl) ?_
  refine lv_iload_n hx hb dX0_answerTimeOf_1 rfl (lv_at hl 1 rfl) ?_
  obtain ⟨r_1, X_1, h_1, hf2⟩ := m_bi_s hf0
  clear hf0
  refine m_callVi (q := (RX0, TX0, 9)) C [.int v1] [] (c_X0_has l D a cy hG N _ _ h_1) (m_goodV wl_X0_51 wi_X0_has ws_X0_has wn_X0 wc_X0_has) ⟨rfl, rfl⟩ hv_X0_has ⟨Nat.le_of_ble_eq_true rfl, Nat.le_of_ble_eq_true rfl⟩ rfl mC_1 hP hS rfl hl.1 rfl (Nat.le_of_ble_eq_true rfl) dX0_answerTimeOf_2 (fun H locs hP hS => ?_)
  refine lv_if_eq (tgt := 17) hx hb dX0_answerTimeOf_5 (by decide) (fun c_3 => ?_) (fun c_3 => ?_)
  · have hf4 := m_it c_3 hf2
    clear hf2
    refine lv_bipush (v := (-5)) hx hb dX0_answerTimeOf_17 (by decide) ?_
    exact m_iret C hP hS dX0_answerTimeOf_19 hf4
  · have hf5 := m_ie c_3 hf2
    clear hf2
    refine lv_aload_n hx hb dX0_answerTimeOf_8 rfl (lv_at hl 0 rfl) ?_
    refine m_get C hP mC_1 rfl inX0 5 (by decide) wf_X0_28 rfl dX0_answerTimeOf_9 ?_
    refine lv_iload_n hx hb dX0_answerTimeOf_12 rfl (lv_at hl 1 rfl) ?_
    obtain ⟨g_6, hf7⟩ := m_gd_s hf5
    clear hf5
    refine m_ild C hP mC_7 0 rfl g_6 dX0_answerTimeOf_13 (fun y_6 e_6 => ?_)
    have hf8 := m_nm_s e_6 hf7
    clear hf7
    refine lv_goto (tgt := 19) hx hb dX0_answerTimeOf_14 (by decide) ?_
    exact m_iret C hP hS dX0_answerTimeOf_19 hf8
end
