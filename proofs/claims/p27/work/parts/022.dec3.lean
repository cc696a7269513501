theorem dX3_init_0 : decode cX3_init 0 = .ok (.aload_n 0, 1) := by decide +kernel
theorem dX3_init_1 : decode cX3_init 1 = .ok (.invokespecial 3, 3) := by decide +kernel
theorem dX3_init_4 : decode cX3_init 4 = .ok (.aload_n 0, 1) := by decide +kernel
theorem dX3_init_5 : decode cX3_init 5 = .ok (.new 9, 3) := by decide +kernel
theorem dX3_init_8 : decode cX3_init 8 = .ok (.dup, 1) := by decide +kernel
theorem dX3_init_9 : decode cX3_init 9 = .ok (.invokespecial 11, 3) := by decide +kernel
theorem dX3_init_12 : decode cX3_init 12 = .ok (.putfield 12, 3) := by decide +kernel
theorem dX3_init_15 : decode cX3_init 15 = .ok (.aload_n 0, 1) := by decide +kernel
theorem dX3_init_16 : decode cX3_init 16 = .ok (.new 18, 3) := by decide +kernel
theorem dX3_init_19 : decode cX3_init 19 = .ok (.dup, 1) := by decide +kernel
theorem dX3_init_20 : decode cX3_init 20 = .ok (.invokespecial 20, 3) := by decide +kernel
theorem dX3_init_23 : decode cX3_init 23 = .ok (.putfield 21, 3) := by decide +kernel
theorem dX3_init_26 : decode cX3_init 26 = .ok (.aload_n 0, 1) := by decide +kernel
theorem dX3_init_27 : decode cX3_init 27 = .ok (.new 25, 3) := by decide +kernel
theorem dX3_init_30 : decode cX3_init 30 = .ok (.dup, 1) := by decide +kernel
theorem dX3_init_31 : decode cX3_init 31 = .ok (.invokespecial 27, 3) := by decide +kernel
theorem dX3_init_34 : decode cX3_init 34 = .ok (.putfield 28, 3) := by decide +kernel
theorem dX3_init_37 : decode cX3_init 37 = .ok (.aload_n 0, 1) := by decide +kernel
theorem dX3_init_38 : decode cX3_init 38 = .ok (.new 32, 3) := by decide +kernel
theorem dX3_init_41 : decode cX3_init 41 = .ok (.dup, 1) := by decide +kernel
theorem dX3_init_42 : decode cX3_init 42 = .ok (.invokespecial 34, 3) := by decide +kernel
theorem dX3_init_45 : decode cX3_init 45 = .ok (.putfield 35, 3) := by decide +kernel
theorem dX3_init_48 : decode cX3_init 48 = .ok (.aload_n 0, 1) := by decide +kernel
theorem dX3_init_49 : decode cX3_init 49 = .ok (.bipush 8, 2) := by decide +kernel
theorem dX3_init_51 : decode cX3_init 51 = .ok (.newarray .int, 2) := by decide +kernel
theorem dX3_init_53 : decode cX3_init 53 = .ok (.putfield 39, 3) := by decide +kernel
theorem dX3_init_56 : decode cX3_init 56 = .ok (.aload_n 0, 1) := by decide +kernel
theorem dX3_init_57 : decode cX3_init 57 = .ok (.bipush 12, 2) := by decide +kernel
theorem dX3_init_59 : decode cX3_init 59 = .ok (.newarray .int, 2) := by decide +kernel
theorem dX3_init_61 : decode cX3_init 61 = .ok (.putfield 43, 3) := by decide +kernel
theorem dX3_init_64 : decode cX3_init 64 = .ok (.aload_n 0, 1) := by decide +kernel
theorem dX3_init_65 : decode cX3_init 65 = .ok (.iconst 2, 1) := by decide +kernel
theorem dX3_init_66 : decode cX3_init 66 = .ok (.putfield 46, 3) := by decide +kernel
theorem dX3_init_69 : decode cX3_init 69 = .ok (.aload_n 0, 1) := by decide +kernel
theorem dX3_init_70 : decode cX3_init 70 = .ok (.bipush (-5), 2) := by decide +kernel
theorem dX3_init_72 : decode cX3_init 72 = .ok (.putfield 50, 3) := by decide +kernel
theorem dX3_init_75 : decode cX3_init 75 = .ok (.aload_n 0, 1) := by decide +kernel
theorem dX3_init_76 : decode cX3_init 76 = .ok (.bipush (-5), 2) := by decide +kernel
theorem dX3_init_78 : decode cX3_init 78 = .ok (.putfield 53, 3) := by decide +kernel
theorem dX3_init_81 : decode cX3_init 81 = .ok (.iconst 0, 1) := by decide +kernel
theorem dX3_init_82 : decode cX3_init 82 = .ok (.istore_n 1, 1) := by decide +kernel
theorem dX3_init_83 : decode cX3_init 83 = .ok (.iload_n 1, 1) := by decide +kernel
theorem dX3_init_84 : decode cX3_init 84 = .ok (.bipush 12, 2) := by decide +kernel
theorem dX3_init_86 : decode cX3_init 86 = .ok (.if_icmp .ge 17, 3) := by decide +kernel
theorem dX3_init_89 : decode cX3_init 89 = .ok (.aload_n 0, 1) := by decide +kernel
theorem dX3_init_90 : decode cX3_init 90 = .ok (.getfield 43, 3) := by decide +kernel
theorem dX3_init_93 : decode cX3_init 93 = .ok (.iload_n 1, 1) := by decide +kernel
theorem dX3_init_94 : decode cX3_init 94 = .ok (.bipush (-5), 2) := by decide +kernel
theorem dX3_init_96 : decode cX3_init 96 = .ok (.iastore, 1) := by decide +kernel
theorem dX3_init_97 : decode cX3_init 97 = .ok (.iinc 1 1, 3) := by decide +kernel
theorem dX3_init_100 : decode cX3_init 100 = .ok (.goto (-17), 3) := by decide +kernel
theorem dX3_init_103 : decode cX3_init 103 = .ok (.return_, 1) := by decide +kernel
theorem dX3_copyFrom_0 : decode cX3_copyFrom 0 = .ok (.aload_n 0, 1) := by decide +kernel
theorem dX3_copyFrom_1 : decode cX3_copyFrom 1 = .ok (.getfield 12, 3) := by decide +kernel
theorem dX3_copyFrom_4 : decode cX3_copyFrom 4 = .ok (.aload_n 1, 1) := by decide +kernel
theorem dX3_copyFrom_5 : decode cX3_copyFrom 5 = .ok (.getfield 12, 3) := by decide +kernel
theorem dX3_copyFrom_8 : decode cX3_copyFrom 8 = .ok (.invokevirtual 56, 3) := by decide +kernel
theorem dX3_copyFrom_11 : decode cX3_copyFrom 11 = .ok (.aload_n 0, 1) := by decide +kernel
theorem dX3_copyFrom_12 : decode cX3_copyFrom 12 = .ok (.getfield 21, 3) := by decide +kernel
theorem dX3_copyFrom_15 : decode cX3_copyFrom 15 = .ok (.aload_n 1, 1) := by decide +kernel
theorem dX3_copyFrom_16 : decode cX3_copyFrom 16 = .ok (.getfield 21, 3) := by decide +kernel
theorem dX3_copyFrom_19 : decode cX3_copyFrom 19 = .ok (.invokevirtual 60, 3) := by decide +kernel
theorem dX3_copyFrom_22 : decode cX3_copyFrom 22 = .ok (.aload_n 0, 1) := by decide +kernel
theorem dX3_copyFrom_23 : decode cX3_copyFrom 23 = .ok (.getfield 28, 3) := by decide +kernel
theorem dX3_copyFrom_26 : decode cX3_copyFrom 26 = .ok (.aload_n 1, 1) := by decide +kernel
theorem dX3_copyFrom_27 : decode cX3_copyFrom 27 = .ok (.getfield 28, 3) := by decide +kernel
theorem dX3_copyFrom_30 : decode cX3_copyFrom 30 = .ok (.invokevirtual 63, 3) := by decide +kernel
theorem dX3_copyFrom_33 : decode cX3_copyFrom 33 = .ok (.aload_n 0, 1) := by decide +kernel
theorem dX3_copyFrom_34 : decode cX3_copyFrom 34 = .ok (.getfield 35, 3) := by decide +kernel
theorem dX3_copyFrom_37 : decode cX3_copyFrom 37 = .ok (.aload_n 1, 1) := by decide +kernel
theorem dX3_copyFrom_38 : decode cX3_copyFrom 38 = .ok (.getfield 35, 3) := by decide +kernel
theorem dX3_copyFrom_41 : decode cX3_copyFrom 41 = .ok (.invokevirtual 66, 3) := by decide +kernel
theorem dX3_copyFrom_44 : decode cX3_copyFrom 44 = .ok (.aload_n 1, 1) := by decide +kernel
theorem dX3_copyFrom_45 : decode cX3_copyFrom 45 = .ok (.getfield 39, 3) := by decide +kernel
theorem dX3_copyFrom_48 : decode cX3_copyFrom 48 = .ok (.iconst 0, 1) := by decide +kernel
theorem dX3_copyFrom_49 : decode cX3_copyFrom 49 = .ok (.aload_n 0, 1) := by decide +kernel
theorem dX3_copyFrom_50 : decode cX3_copyFrom 50 = .ok (.getfield 39, 3) := by decide +kernel
theorem dX3_copyFrom_53 : decode cX3_copyFrom 53 = .ok (.iconst 0, 1) := by decide +kernel
theorem dX3_copyFrom_54 : decode cX3_copyFrom 54 = .ok (.bipush 8, 2) := by decide +kernel
theorem dX3_copyFrom_56 : decode cX3_copyFrom 56 = .ok (.invokestatic 69, 3) := by decide +kernel
theorem dX3_copyFrom_59 : decode cX3_copyFrom 59 = .ok (.aload_n 1, 1) := by decide +kernel
theorem dX3_copyFrom_60 : decode cX3_copyFrom 60 = .ok (.getfield 43, 3) := by decide +kernel
theorem dX3_copyFrom_63 : decode cX3_copyFrom 63 = .ok (.iconst 0, 1) := by decide +kernel
theorem dX3_copyFrom_64 : decode cX3_copyFrom 64 = .ok (.aload_n 0, 1) := by decide +kernel
theorem dX3_copyFrom_65 : decode cX3_copyFrom 65 = .ok (.getfield 43, 3) := by decide +kernel
theorem dX3_copyFrom_68 : decode cX3_copyFrom 68 = .ok (.iconst 0, 1) := by decide +kernel
theorem dX3_copyFrom_69 : decode cX3_copyFrom 69 = .ok (.bipush 12, 2) := by decide +kernel
theorem dX3_copyFrom_71 : decode cX3_copyFrom 71 = .ok (.invokestatic 69, 3) := by decide +kernel
theorem dX3_copyFrom_74 : decode cX3_copyFrom 74 = .ok (.aload_n 0, 1) := by decide +kernel
theorem dX3_copyFrom_75 : decode cX3_copyFrom 75 = .ok (.aload_n 1, 1) := by decide +kernel
theorem dX3_copyFrom_76 : decode cX3_copyFrom 76 = .ok (.getfield 75, 3) := by decide +kernel
theorem dX3_copyFrom_79 : decode cX3_copyFrom 79 = .ok (.putfield 75, 3) := by decide +kernel
theorem dX3_copyFrom_82 : decode cX3_copyFrom 82 = .ok (.aload_n 0, 1) := by decide +kernel
theorem dX3_copyFrom_83 : decode cX3_copyFrom 83 = .ok (.aload_n 1, 1) := by decide +kernel
theorem dX3_copyFrom_84 : decode cX3_copyFrom 84 = .ok (.getfield 46, 3) := by decide +kernel
theorem dX3_copyFrom_87 : decode cX3_copyFrom 87 = .ok (.putfield 46, 3) := by decide +kernel
theorem dX3_copyFrom_90 : decode cX3_copyFrom 90 = .ok (.aload_n 0, 1) := by decide +kernel
theorem dX3_copyFrom_91 : decode cX3_copyFrom 91 = .ok (.aload_n 1, 1) := by decide +kernel
theorem dX3_copyFrom_92 : decode cX3_copyFrom 92 = .ok (.getfield 50, 3) := by decide +kernel
theorem dX3_copyFrom_95 : decode cX3_copyFrom 95 = .ok (.putfield 50, 3) := by decide +kernel
theorem dX3_copyFrom_98 : decode cX3_copyFrom 98 = .ok (.aload_n 0, 1) := by decide +kernel
theorem dX3_copyFrom_99 : decode cX3_copyFrom 99 = .ok (.aload_n 1, 1) := by decide +kernel
theorem dX3_copyFrom_100 : decode cX3_copyFrom 100 = .ok (.getfield 78, 3) := by decide +kernel
theorem dX3_copyFrom_103 : decode cX3_copyFrom 103 = .ok (.putfield 78, 3) := by decide +kernel
theorem dX3_copyFrom_106 : decode cX3_copyFrom 106 = .ok (.aload_n 0, 1) := by decide +kernel
theorem dX3_copyFrom_107 : decode cX3_copyFrom 107 = .ok (.aload_n 1, 1) := by decide +kernel
theorem dX3_copyFrom_108 : decode cX3_copyFrom 108 = .ok (.getfield 53, 3) := by decide +kernel
theorem dX3_copyFrom_111 : decode cX3_copyFrom 111 = .ok (.putfield 53, 3) := by decide +kernel
theorem dX3_copyFrom_114 : decode cX3_copyFrom 114 = .ok (.aload_n 0, 1) := by decide +kernel
theorem dX3_copyFrom_115 : decode cX3_copyFrom 115 = .ok (.aload_n 1, 1) := by decide +kernel
theorem dX3_copyFrom_116 : decode cX3_copyFrom 116 = .ok (.getfield 81, 3) := by decide +kernel
theorem dX3_copyFrom_119 : decode cX3_copyFrom 119 = .ok (.putfield 81, 3) := by decide +kernel
theorem dX3_copyFrom_122 : decode cX3_copyFrom 122 = .ok (.return_, 1) := by decide +kernel
theorem dX3_isClient_0 : decode cX3_isClient 0 = .ok (.iload_n 0, 1) := by decide +kernel
theorem dX3_isClient_1 : decode cX3_isClient 1 = .ok (.ifCond .lt 13, 3) := by decide +kernel
theorem dX3_isClient_4 : decode cX3_isClient 4 = .ok (.iload_n 0, 1) := by decide +kernel
theorem dX3_isClient_5 : decode cX3_isClient 5 = .ok (.bipush 12, 2) := by decide +kernel
theorem dX3_isClient_7 : decode cX3_isClient 7 = .ok (.if_icmp .ge 7, 3) := by decide +kernel
theorem dX3_isClient_10 : decode cX3_isClient 10 = .ok (.iconst 1, 1) := by decide +kernel
theorem dX3_isClient_11 : decode cX3_isClient 11 = .ok (.goto 4, 3) := by decide +kernel
theorem dX3_isClient_14 : decode cX3_isClient 14 = .ok (.iconst 0, 1) := by decide +kernel
theorem dX3_isClient_15 : decode cX3_isClient 15 = .ok (.ireturn, 1) := by decide +kernel
theorem dX3_openCommitOf_0 : decode cX3_openCommitOf 0 = .ok (.iload_n 1, 1) := by decide +kernel
theorem dX3_openCommitOf_1 : decode cX3_openCommitOf 1 = .ok (.invokestatic 84, 3) := by decide +kernel
theorem dX3_openCommitOf_4 : decode cX3_openCommitOf 4 = .ok (.ifCond .eq 12, 3) := by decide +kernel
theorem dX3_openCommitOf_7 : decode cX3_openCommitOf 7 = .ok (.aload_n 0, 1) := by decide +kernel
theorem dX3_openCommitOf_8 : decode cX3_openCommitOf 8 = .ok (.getfield 43, 3) := by decide +kernel
theorem dX3_openCommitOf_11 : decode cX3_openCommitOf 11 = .ok (.iload_n 1, 1) := by decide +kernel
theorem dX3_openCommitOf_12 : decode cX3_openCommitOf 12 = .ok (.iaload, 1) := by decide +kernel
theorem dX3_openCommitOf_13 : decode cX3_openCommitOf 13 = .ok (.goto 5, 3) := by decide +kernel
theorem dX3_openCommitOf_16 : decode cX3_openCommitOf 16 = .ok (.bipush (-5), 2) := by decide +kernel
theorem dX3_openCommitOf_18 : decode cX3_openCommitOf 18 = .ok (.ireturn, 1) := by decide +kernel
theorem dX3_setOpenCommit_0 : decode cX3_setOpenCommit 0 = .ok (.iload_n 1, 1) := by decide +kernel
theorem dX3_setOpenCommit_1 : decode cX3_setOpenCommit 1 = .ok (.invokestatic 84, 3) := by decide +kernel
theorem dX3_setOpenCommit_4 : decode cX3_setOpenCommit 4 = .ok (.ifCond .eq 10, 3) := by decide +kernel
theorem dX3_setOpenCommit_7 : decode cX3_setOpenCommit 7 = .ok (.aload_n 0, 1) := by decide +kernel
theorem dX3_setOpenCommit_8 : decode cX3_setOpenCommit 8 = .ok (.getfield 43, 3) := by decide +kernel
theorem dX3_setOpenCommit_11 : decode cX3_setOpenCommit 11 = .ok (.iload_n 1, 1) := by decide +kernel
theorem dX3_setOpenCommit_12 : decode cX3_setOpenCommit 12 = .ok (.iload_n 2, 1) := by decide +kernel
theorem dX3_setOpenCommit_13 : decode cX3_setOpenCommit 13 = .ok (.iastore, 1) := by decide +kernel
theorem dX3_setOpenCommit_14 : decode cX3_setOpenCommit 14 = .ok (.return_, 1) := by decide +kernel
theorem dX3_busyClients_0 : decode cX3_busyClients 0 = .ok (.iconst 0, 1) := by decide +kernel
theorem dX3_busyClients_1 : decode cX3_busyClients 1 = .ok (.istore_n 1, 1) := by decide +kernel
theorem dX3_busyClients_2 : decode cX3_busyClients 2 = .ok (.iconst 0, 1) := by decide +kernel
theorem dX3_busyClients_3 : decode cX3_busyClients 3 = .ok (.istore_n 2, 1) := by decide +kernel
theorem dX3_busyClients_4 : decode cX3_busyClients 4 = .ok (.iload_n 2, 1) := by decide +kernel
theorem dX3_busyClients_5 : decode cX3_busyClients 5 = .ok (.bipush 12, 2) := by decide +kernel
theorem dX3_busyClients_7 : decode cX3_busyClients 7 = .ok (.if_icmp .ge 23, 3) := by decide +kernel
theorem dX3_busyClients_10 : decode cX3_busyClients 10 = .ok (.aload_n 0, 1) := by decide +kernel
theorem dX3_busyClients_11 : decode cX3_busyClients 11 = .ok (.getfield 43, 3) := by decide +kernel
theorem dX3_busyClients_14 : decode cX3_busyClients 14 = .ok (.iload_n 2, 1) := by decide +kernel
theorem dX3_busyClients_15 : decode cX3_busyClients 15 = .ok (.iaload, 1) := by decide +kernel
theorem dX3_busyClients_16 : decode cX3_busyClients 16 = .ok (.bipush (-5), 2) := by decide +kernel
theorem dX3_busyClients_18 : decode cX3_busyClients 18 = .ok (.if_icmp .eq 6, 3) := by decide +kernel
theorem dX3_busyClients_21 : decode cX3_busyClients 21 = .ok (.iinc 1 1, 3) := by decide +kernel
theorem dX3_busyClients_24 : decode cX3_busyClients 24 = .ok (.iinc 2 1, 3) := by decide +kernel
theorem dX3_busyClients_27 : decode cX3_busyClients 27 = .ok (.goto (-23), 3) := by decide +kernel
theorem dX3_busyClients_30 : decode cX3_busyClients 30 = .ok (.iload_n 1, 1) := by decide +kernel
theorem dX3_busyClients_31 : decode cX3_busyClients 31 = .ok (.ireturn, 1) := by decide +kernel
theorem dX3_isRecords_0 : decode cX3_isRecords 0 = .ok (.iload_n 0, 1) := by decide +kernel
theorem dX3_isRecords_1 : decode cX3_isRecords 1 = .ok (.iconst 1, 1) := by decide +kernel
theorem dX3_isRecords_2 : decode cX3_isRecords 2 = .ok (.if_icmp .lt 13, 3) := by decide +kernel
theorem dX3_isRecords_5 : decode cX3_isRecords 5 = .ok (.iload_n 0, 1) := by decide +kernel
theorem dX3_isRecords_6 : decode cX3_isRecords 6 = .ok (.bipush 8, 2) := by decide +kernel
theorem dX3_isRecords_8 : decode cX3_isRecords 8 = .ok (.if_icmp .gt 7, 3) := by decide +kernel
theorem dX3_isRecords_11 : decode cX3_isRecords 11 = .ok (.iconst 1, 1) := by decide +kernel
theorem dX3_isRecords_12 : decode cX3_isRecords 12 = .ok (.goto 4, 3) := by decide +kernel
theorem dX3_isRecords_15 : decode cX3_isRecords 15 = .ok (.iconst 0, 1) := by decide +kernel
theorem dX3_isRecords_16 : decode cX3_isRecords 16 = .ok (.ireturn, 1) := by decide +kernel
theorem dX3_refusalToEnter_0 : decode cX3_refusalToEnter 0 = .ok (.iload_n 1, 1) := by decide +kernel
theorem dX3_refusalToEnter_1 : decode cX3_refusalToEnter 1 = .ok (.invokestatic 84, 3) := by decide +kernel
theorem dX3_refusalToEnter_4 : decode cX3_refusalToEnter 4 = .ok (.ifCond .ne 5, 3) := by decide +kernel
theorem dX3_refusalToEnter_7 : decode cX3_refusalToEnter 7 = .ok (.iconst (-1), 1) := by decide +kernel
theorem dX3_refusalToEnter_8 : decode cX3_refusalToEnter 8 = .ok (.ireturn, 1) := by decide +kernel
theorem dX3_refusalToEnter_9 : decode cX3_refusalToEnter 9 = .ok (.iload_n 2, 1) := by decide +kernel
theorem dX3_refusalToEnter_10 : decode cX3_refusalToEnter 10 = .ok (.invokestatic 88, 3) := by decide +kernel
theorem dX3_refusalToEnter_13 : decode cX3_refusalToEnter 13 = .ok (.ifCond .ne 6, 3) := by decide +kernel
theorem dX3_refusalToEnter_16 : decode cX3_refusalToEnter 16 = .ok (.bipush (-2), 2) := by decide +kernel
theorem dX3_refusalToEnter_18 : decode cX3_refusalToEnter 18 = .ok (.ireturn, 1) := by decide +kernel
theorem dX3_refusalToEnter_19 : decode cX3_refusalToEnter 19 = .ok (.aload_n 0, 1) := by decide +kernel
theorem dX3_refusalToEnter_20 : decode cX3_refusalToEnter 20 = .ok (.iload_n 1, 1) := by decide +kernel
theorem dX3_refusalToEnter_21 : decode cX3_refusalToEnter 21 = .ok (.invokevirtual 91, 3) := by decide +kernel
theorem dX3_refusalToEnter_24 : decode cX3_refusalToEnter 24 = .ok (.bipush (-5), 2) := by decide +kernel
theorem dX3_refusalToEnter_26 : decode cX3_refusalToEnter 26 = .ok (.if_icmp .eq 6, 3) := by decide +kernel
theorem dX3_refusalToEnter_29 : decode cX3_refusalToEnter 29 = .ok (.bipush (-4), 2) := by decide +kernel
theorem dX3_refusalToEnter_31 : decode cX3_refusalToEnter 31 = .ok (.ireturn, 1) := by decide +kernel
theorem dX3_refusalToEnter_32 : decode cX3_refusalToEnter 32 = .ok (.aload_n 0, 1) := by decide +kernel
theorem dX3_refusalToEnter_33 : decode cX3_refusalToEnter 33 = .ok (.getfield 12, 3) := by decide +kernel
theorem dX3_refusalToEnter_36 : decode cX3_refusalToEnter 36 = .ok (.invokevirtual 95, 3) := by decide +kernel
theorem dX3_refusalToEnter_39 : decode cX3_refusalToEnter 39 = .ok (.ifCond .eq 8, 3) := by decide +kernel
theorem dX3_refusalToEnter_42 : decode cX3_refusalToEnter 42 = .ok (.bipush (-3), 2) := by decide +kernel
theorem dX3_refusalToEnter_44 : decode cX3_refusalToEnter 44 = .ok (.goto 4, 3) := by decide +kernel
theorem dX3_refusalToEnter_47 : decode cX3_refusalToEnter 47 = .ok (.iconst 0, 1) := by decide +kernel
theorem dX3_refusalToEnter_48 : decode cX3_refusalToEnter 48 = .ok (.ireturn, 1) := by decide +kernel
theorem dX3_enter_0 : decode cX3_enter 0 = .ok (.aload_n 0, 1) := by decide +kernel
theorem dX3_enter_1 : decode cX3_enter 1 = .ok (.getfield 50, 3) := by decide +kernel
theorem dX3_enter_4 : decode cX3_enter 4 = .ok (.bipush (-5), 2) := by decide +kernel
theorem dX3_enter_6 : decode cX3_enter 6 = .ok (.if_icmp .ne 7, 3) := by decide +kernel
theorem dX3_enter_9 : decode cX3_enter 9 = .ok (.aload_n 0, 1) := by decide +kernel
theorem dX3_enter_10 : decode cX3_enter 10 = .ok (.invokevirtual 103, 3) := by decide +kernel
theorem dX3_enter_13 : decode cX3_enter 13 = .ok (.aload_n 0, 1) := by decide +kernel
theorem dX3_enter_14 : decode cX3_enter 14 = .ok (.getfield 12, 3) := by decide +kernel
theorem dX3_enter_17 : decode cX3_enter 17 = .ok (.iload_n 1, 1) := by decide +kernel
theorem dX3_enter_18 : decode cX3_enter 18 = .ok (.iload_n 2, 1) := by decide +kernel
theorem dX3_enter_19 : decode cX3_enter 19 = .ok (.iload_n 3, 1) := by decide +kernel
theorem dX3_enter_20 : decode cX3_enter 20 = .ok (.aload_n 0, 1) := by decide +kernel
theorem dX3_enter_21 : decode cX3_enter 21 = .ok (.getfield 75, 3) := by decide +kernel
theorem dX3_enter_24 : decode cX3_enter 24 = .ok (.aload_n 0, 1) := by decide +kernel
theorem dX3_enter_25 : decode cX3_enter 25 = .ok (.getfield 50, 3) := by decide +kernel
theorem dX3_enter_28 : decode cX3_enter 28 = .ok (.invokevirtual 106, 3) := by decide +kernel
theorem dX3_enter_31 : decode cX3_enter 31 = .ok (.istore 4, 2) := by decide +kernel
theorem dX3_enter_33 : decode cX3_enter 33 = .ok (.aload_n 0, 1) := by decide +kernel
theorem dX3_enter_34 : decode cX3_enter 34 = .ok (.getfield 21, 3) := by decide +kernel
theorem dX3_enter_37 : decode cX3_enter 37 = .ok (.aload_n 0, 1) := by decide +kernel
theorem dX3_enter_38 : decode cX3_enter 38 = .ok (.getfield 50, 3) := by decide +kernel
theorem dX3_enter_41 : decode cX3_enter 41 = .ok (.iload_n 2, 1) := by decide +kernel
theorem dX3_enter_42 : decode cX3_enter 42 = .ok (.invokevirtual 110, 3) := by decide +kernel
theorem dX3_enter_45 : decode cX3_enter 45 = .ok (.aload_n 0, 1) := by decide +kernel
theorem dX3_enter_46 : decode cX3_enter 46 = .ok (.iload_n 1, 1) := by decide +kernel
theorem dX3_enter_47 : decode cX3_enter 47 = .ok (.iload 4, 2) := by decide +kernel
theorem dX3_enter_49 : decode cX3_enter 49 = .ok (.invokevirtual 114, 3) := by decide +kernel
theorem dX3_enter_52 : decode cX3_enter 52 = .ok (.aload_n 0, 1) := by decide +kernel
theorem dX3_enter_53 : decode cX3_enter 53 = .ok (.getfield 39, 3) := by decide +kernel
theorem dX3_enter_56 : decode cX3_enter 56 = .ok (.iconst 0, 1) := by decide +kernel
theorem dX3_enter_57 : decode cX3_enter 57 = .ok (.dup2, 1) := by decide +kernel
theorem dX3_enter_58 : decode cX3_enter 58 = .ok (.iaload, 1) := by decide +kernel
theorem dX3_enter_59 : decode cX3_enter 59 = .ok (.iconst 1, 1) := by decide +kernel
theorem dX3_enter_60 : decode cX3_enter 60 = .ok (.iadd, 1) := by decide +kernel
theorem dX3_enter_61 : decode cX3_enter 61 = .ok (.iastore, 1) := by decide +kernel
theorem dX3_enter_62 : decode cX3_enter 62 = .ok (.aload_n 0, 1) := by decide +kernel
theorem dX3_enter_63 : decode cX3_enter 63 = .ok (.iload_n 3, 1) := by decide +kernel
theorem dX3_enter_64 : decode cX3_enter 64 = .ok (.aload_n 0, 1) := by decide +kernel
theorem dX3_enter_65 : decode cX3_enter 65 = .ok (.getfield 21, 3) := by decide +kernel
theorem dX3_enter_68 : decode cX3_enter 68 = .ok (.aload_n 0, 1) := by decide +kernel
theorem dX3_enter_69 : decode cX3_enter 69 = .ok (.getfield 50, 3) := by decide +kernel
theorem dX3_enter_72 : decode cX3_enter 72 = .ok (.invokevirtual 117, 3) := by decide +kernel
theorem dX3_enter_75 : decode cX3_enter 75 = .ok (.aload_n 0, 1) := by decide +kernel
theorem dX3_enter_76 : decode cX3_enter 76 = .ok (.getfield 78, 3) := by decide +kernel
theorem dX3_enter_79 : decode cX3_enter 79 = .ok (.invokevirtual 120, 3) := by decide +kernel
theorem dX3_enter_82 : decode cX3_enter 82 = .ok (.istore 5, 2) := by decide +kernel
theorem dX3_enter_84 : decode cX3_enter 84 = .ok (.iload 5, 2) := by decide +kernel
theorem dX3_enter_86 : decode cX3_enter 86 = .ok (.ifCond .eq 13, 3) := by decide +kernel
theorem dX3_enter_89 : decode cX3_enter 89 = .ok (.aload_n 0, 1) := by decide +kernel
theorem dX3_enter_90 : decode cX3_enter 90 = .ok (.iload 5, 2) := by decide +kernel
theorem dX3_enter_92 : decode cX3_enter 92 = .ok (.invokevirtual 124, 3) := by decide +kernel
theorem dX3_enter_95 : decode cX3_enter 95 = .ok (.aload_n 0, 1) := by decide +kernel
theorem dX3_enter_96 : decode cX3_enter 96 = .ok (.invokevirtual 128, 3) := by decide +kernel
theorem dX3_enter_99 : decode cX3_enter 99 = .ok (.iload 4, 2) := by decide +kernel
theorem dX3_enter_101 : decode cX3_enter 101 = .ok (.ireturn, 1) := by decide +kernel
theorem dX3_loseClient_0 : decode cX3_loseClient 0 = .ok (.aload_n 0, 1) := by decide +kernel
theorem dX3_loseClient_1 : decode cX3_loseClient 1 = .ok (.iload_n 1, 1) := by decide +kernel
theorem dX3_loseClient_2 : decode cX3_loseClient 2 = .ok (.invokevirtual 91, 3) := by decide +kernel
theorem dX3_loseClient_5 : decode cX3_loseClient 5 = .ok (.istore_n 2, 1) := by decide +kernel
theorem dX3_loseClient_6 : decode cX3_loseClient 6 = .ok (.iload_n 2, 1) := by decide +kernel
theorem dX3_loseClient_7 : decode cX3_loseClient 7 = .ok (.bipush (-5), 2) := by decide +kernel
theorem dX3_loseClient_9 : decode cX3_loseClient 9 = .ok (.if_icmp .ne 6, 3) := by decide +kernel
theorem dX3_loseClient_12 : decode cX3_loseClient 12 = .ok (.bipush (-5), 2) := by decide +kernel
theorem dX3_loseClient_14 : decode cX3_loseClient 14 = .ok (.ireturn, 1) := by decide +kernel
theorem dX3_loseClient_15 : decode cX3_loseClient 15 = .ok (.aload_n 0, 1) := by decide +kernel
theorem dX3_loseClient_16 : decode cX3_loseClient 16 = .ok (.getfield 12, 3) := by decide +kernel
theorem dX3_loseClient_19 : decode cX3_loseClient 19 = .ok (.iload_n 2, 1) := by decide +kernel
theorem dX3_loseClient_20 : decode cX3_loseClient 20 = .ok (.invokevirtual 131, 3) := by decide +kernel
theorem dX3_loseClient_23 : decode cX3_loseClient 23 = .ok (.iconst 1, 1) := by decide +kernel
theorem dX3_loseClient_24 : decode cX3_loseClient 24 = .ok (.if_icmp .ne 8, 3) := by decide +kernel
theorem dX3_loseClient_27 : decode cX3_loseClient 27 = .ok (.aload_n 0, 1) := by decide +kernel
theorem dX3_loseClient_28 : decode cX3_loseClient 28 = .ok (.iload_n 2, 1) := by decide +kernel
theorem dX3_loseClient_29 : decode cX3_loseClient 29 = .ok (.invokevirtual 134, 3) := by decide +kernel
theorem dX3_loseClient_32 : decode cX3_loseClient 32 = .ok (.aload_n 0, 1) := by decide +kernel
theorem dX3_loseClient_33 : decode cX3_loseClient 33 = .ok (.iload_n 2, 1) := by decide +kernel
theorem dX3_loseClient_34 : decode cX3_loseClient 34 = .ok (.iconst 5, 1) := by decide +kernel
theorem dX3_loseClient_35 : decode cX3_loseClient 35 = .ok (.invokevirtual 137, 3) := by decide +kernel
theorem dX3_loseClient_38 : decode cX3_loseClient 38 = .ok (.aload_n 0, 1) := by decide +kernel
theorem dX3_loseClient_39 : decode cX3_loseClient 39 = .ok (.getfield 39, 3) := by decide +kernel
theorem dX3_loseClient_42 : decode cX3_loseClient 42 = .ok (.iconst 2, 1) := by decide +kernel
theorem dX3_loseClient_43 : decode cX3_loseClient 43 = .ok (.dup2, 1) := by decide +kernel
theorem dX3_loseClient_44 : decode cX3_loseClient 44 = .ok (.iaload, 1) := by decide +kernel
theorem dX3_loseClient_45 : decode cX3_loseClient 45 = .ok (.iconst 1, 1) := by decide +kernel
theorem dX3_loseClient_46 : decode cX3_loseClient 46 = .ok (.iadd, 1) := by decide +kernel
theorem dX3_loseClient_47 : decode cX3_loseClient 47 = .ok (.iastore, 1) := by decide +kernel
theorem dX3_loseClient_48 : decode cX3_loseClient 48 = .ok (.iload_n 2, 1) := by decide +kernel
theorem dX3_loseClient_49 : decode cX3_loseClient 49 = .ok (.ireturn, 1) := by decide +kernel
theorem dX3_refusalToTakeBack_0 : decode cX3_refusalToTakeBack 0 = .ok (.iload_n 1, 1) := by decide +kernel
theorem dX3_refusalToTakeBack_1 : decode cX3_refusalToTakeBack 1 = .ok (.invokestatic 84, 3) := by decide +kernel
theorem dX3_refusalToTakeBack_4 : decode cX3_refusalToTakeBack 4 = .ok (.ifCond .ne 5, 3) := by decide +kernel
theorem dX3_refusalToTakeBack_7 : decode cX3_refusalToTakeBack 7 = .ok (.iconst (-1), 1) := by decide +kernel
theorem dX3_refusalToTakeBack_8 : decode cX3_refusalToTakeBack 8 = .ok (.ireturn, 1) := by decide +kernel
theorem dX3_refusalToTakeBack_9 : decode cX3_refusalToTakeBack 9 = .ok (.aload_n 0, 1) := by decide +kernel
theorem dX3_refusalToTakeBack_10 : decode cX3_refusalToTakeBack 10 = .ok (.iload_n 1, 1) := by decide +kernel
theorem dX3_refusalToTakeBack_11 : decode cX3_refusalToTakeBack 11 = .ok (.invokevirtual 91, 3) := by decide +kernel
theorem dX3_refusalToTakeBack_14 : decode cX3_refusalToTakeBack 14 = .ok (.istore_n 2, 1) := by decide +kernel
theorem dX3_refusalToTakeBack_15 : decode cX3_refusalToTakeBack 15 = .ok (.aload_n 0, 1) := by decide +kernel
theorem dX3_refusalToTakeBack_16 : decode cX3_refusalToTakeBack 16 = .ok (.getfield 12, 3) := by decide +kernel
theorem dX3_refusalToTakeBack_19 : decode cX3_refusalToTakeBack 19 = .ok (.iload_n 2, 1) := by decide +kernel
theorem dX3_refusalToTakeBack_20 : decode cX3_refusalToTakeBack 20 = .ok (.invokevirtual 131, 3) := by decide +kernel
theorem dX3_refusalToTakeBack_23 : decode cX3_refusalToTakeBack 23 = .ok (.iconst 1, 1) := by decide +kernel
theorem dX3_refusalToTakeBack_24 : decode cX3_refusalToTakeBack 24 = .ok (.if_icmp .ne 7, 3) := by decide +kernel
theorem dX3_refusalToTakeBack_27 : decode cX3_refusalToTakeBack 27 = .ok (.iconst 0, 1) := by decide +kernel
theorem dX3_refusalToTakeBack_28 : decode cX3_refusalToTakeBack 28 = .ok (.goto 5, 3) := by decide +kernel
theorem dX3_refusalToTakeBack_31 : decode cX3_refusalToTakeBack 31 = .ok (.bipush (-4), 2) := by decide +kernel
theorem dX3_refusalToTakeBack_33 : decode cX3_refusalToTakeBack 33 = .ok (.ireturn, 1) := by decide +kernel
theorem dX3_takeBack_0 : decode cX3_takeBack 0 = .ok (.aload_n 0, 1) := by decide +kernel
theorem dX3_takeBack_1 : decode cX3_takeBack 1 = .ok (.iload_n 1, 1) := by decide +kernel
theorem dX3_takeBack_2 : decode cX3_takeBack 2 = .ok (.invokevirtual 91, 3) := by decide +kernel
theorem dX3_takeBack_5 : decode cX3_takeBack 5 = .ok (.istore_n 2, 1) := by decide +kernel
theorem dX3_takeBack_6 : decode cX3_takeBack 6 = .ok (.aload_n 0, 1) := by decide +kernel
theorem dX3_takeBack_7 : decode cX3_takeBack 7 = .ok (.iload_n 2, 1) := by decide +kernel
theorem dX3_takeBack_8 : decode cX3_takeBack 8 = .ok (.invokevirtual 134, 3) := by decide +kernel
theorem dX3_takeBack_11 : decode cX3_takeBack 11 = .ok (.aload_n 0, 1) := by decide +kernel
theorem dX3_takeBack_12 : decode cX3_takeBack 12 = .ok (.iload_n 2, 1) := by decide +kernel
theorem dX3_takeBack_13 : decode cX3_takeBack 13 = .ok (.bipush 6, 2) := by decide +kernel
theorem dX3_takeBack_15 : decode cX3_takeBack 15 = .ok (.invokevirtual 137, 3) := by decide +kernel
theorem dX3_takeBack_18 : decode cX3_takeBack 18 = .ok (.aload_n 0, 1) := by decide +kernel
theorem dX3_takeBack_19 : decode cX3_takeBack 19 = .ok (.getfield 39, 3) := by decide +kernel
theorem dX3_takeBack_22 : decode cX3_takeBack 22 = .ok (.iconst 3, 1) := by decide +kernel
theorem dX3_takeBack_23 : decode cX3_takeBack 23 = .ok (.dup2, 1) := by decide +kernel
theorem dX3_takeBack_24 : decode cX3_takeBack 24 = .ok (.iaload, 1) := by decide +kernel
theorem dX3_takeBack_25 : decode cX3_takeBack 25 = .ok (.iconst 1, 1) := by decide +kernel
theorem dX3_takeBack_26 : decode cX3_takeBack 26 = .ok (.iadd, 1) := by decide +kernel
theorem dX3_takeBack_27 : decode cX3_takeBack 27 = .ok (.iastore, 1) := by decide +kernel
theorem dX3_takeBack_28 : decode cX3_takeBack 28 = .ok (.aload_n 0, 1) := by decide +kernel
theorem dX3_takeBack_29 : decode cX3_takeBack 29 = .ok (.getfield 21, 3) := by decide +kernel
theorem dX3_takeBack_32 : decode cX3_takeBack 32 = .ok (.aload_n 0, 1) := by decide +kernel
theorem dX3_takeBack_33 : decode cX3_takeBack 33 = .ok (.getfield 12, 3) := by decide +kernel
theorem dX3_takeBack_36 : decode cX3_takeBack 36 = .ok (.iload_n 2, 1) := by decide +kernel
theorem dX3_takeBack_37 : decode cX3_takeBack 37 = .ok (.invokevirtual 140, 3) := by decide +kernel
theorem dX3_takeBack_40 : decode cX3_takeBack 40 = .ok (.invokevirtual 143, 3) := by decide +kernel
theorem dX3_takeBack_43 : decode cX3_takeBack 43 = .ok (.ireturn, 1) := by decide +kernel
theorem dX3_endCommit_0 : decode cX3_endCommit 0 = .ok (.aload_n 0, 1) := by decide +kernel
theorem dX3_endCommit_1 : decode cX3_endCommit 1 = .ok (.getfield 12, 3) := by decide +kernel
theorem dX3_endCommit_4 : decode cX3_endCommit 4 = .ok (.iload_n 1, 1) := by decide +kernel
theorem dX3_endCommit_5 : decode cX3_endCommit 5 = .ok (.iload_n 2, 1) := by decide +kernel
theorem dX3_endCommit_6 : decode cX3_endCommit 6 = .ok (.invokevirtual 146, 3) := by decide +kernel
theorem dX3_endCommit_9 : decode cX3_endCommit 9 = .ok (.aload_n 0, 1) := by decide +kernel
theorem dX3_endCommit_10 : decode cX3_endCommit 10 = .ok (.aload_n 0, 1) := by decide +kernel
theorem dX3_endCommit_11 : decode cX3_endCommit 11 = .ok (.getfield 12, 3) := by decide +kernel
theorem dX3_endCommit_14 : decode cX3_endCommit 14 = .ok (.iload_n 1, 1) := by decide +kernel
theorem dX3_endCommit_15 : decode cX3_endCommit 15 = .ok (.invokevirtual 149, 3) := by decide +kernel
theorem dX3_endCommit_18 : decode cX3_endCommit 18 = .ok (.bipush (-5), 2) := by decide +kernel
theorem dX3_endCommit_20 : decode cX3_endCommit 20 = .ok (.invokevirtual 114, 3) := by decide +kernel
theorem dX3_endCommit_23 : decode cX3_endCommit 23 = .ok (.return_, 1) := by decide +kernel
theorem dX3_beginGroup_0 : decode cX3_beginGroup 0 = .ok (.aload_n 0, 1) := by decide +kernel
theorem dX3_beginGroup_1 : decode cX3_beginGroup 1 = .ok (.aload_n 0, 1) := by decide +kernel
theorem dX3_beginGroup_2 : decode cX3_beginGroup 2 = .ok (.getfield 21, 3) := by decide +kernel
theorem dX3_beginGroup_5 : decode cX3_beginGroup 5 = .ok (.invokevirtual 152, 3) := by decide +kernel
theorem dX3_beginGroup_8 : decode cX3_beginGroup 8 = .ok (.putfield 50, 3) := by decide +kernel
theorem dX3_beginGroup_11 : decode cX3_beginGroup 11 = .ok (.aload_n 0, 1) := by decide +kernel
theorem dX3_beginGroup_12 : decode cX3_beginGroup 12 = .ok (.aload_n 0, 1) := by decide +kernel
theorem dX3_beginGroup_13 : decode cX3_beginGroup 13 = .ok (.getfield 75, 3) := by decide +kernel
theorem dX3_beginGroup_16 : decode cX3_beginGroup 16 = .ok (.aload_n 0, 1) := by decide +kernel
theorem dX3_beginGroup_17 : decode cX3_beginGroup 17 = .ok (.getfield 46, 3) := by decide +kernel
theorem dX3_beginGroup_20 : decode cX3_beginGroup 20 = .ok (.iadd, 1) := by decide +kernel
theorem dX3_beginGroup_21 : decode cX3_beginGroup 21 = .ok (.putfield 78, 3) := by decide +kernel
theorem dX3_beginGroup_24 : decode cX3_beginGroup 24 = .ok (.aload_n 0, 1) := by decide +kernel
theorem dX3_beginGroup_25 : decode cX3_beginGroup 25 = .ok (.getfield 39, 3) := by decide +kernel
theorem dX3_beginGroup_28 : decode cX3_beginGroup 28 = .ok (.iconst 4, 1) := by decide +kernel
theorem dX3_beginGroup_29 : decode cX3_beginGroup 29 = .ok (.dup2, 1) := by decide +kernel
theorem dX3_beginGroup_30 : decode cX3_beginGroup 30 = .ok (.iaload, 1) := by decide +kernel
theorem dX3_beginGroup_31 : decode cX3_beginGroup 31 = .ok (.iconst 1, 1) := by decide +kernel
theorem dX3_beginGroup_32 : decode cX3_beginGroup 32 = .ok (.iadd, 1) := by decide +kernel
theorem dX3_beginGroup_33 : decode cX3_beginGroup 33 = .ok (.iastore, 1) := by decide +kernel
theorem dX3_beginGroup_34 : decode cX3_beginGroup 34 = .ok (.return_, 1) := by decide +kernel
theorem dX3_reasonToClose_0 : decode cX3_reasonToClose 0 = .ok (.iload_n 1, 1) := by decide +kernel
theorem dX3_reasonToClose_1 : decode cX3_reasonToClose 1 = .ok (.ifCond .eq 5, 3) := by decide +kernel
theorem dX3_reasonToClose_4 : decode cX3_reasonToClose 4 = .ok (.iconst 1, 1) := by decide +kernel
theorem dX3_reasonToClose_5 : decode cX3_reasonToClose 5 = .ok (.ireturn, 1) := by decide +kernel
theorem dX3_reasonToClose_6 : decode cX3_reasonToClose 6 = .ok (.iload_n 2, 1) := by decide +kernel
theorem dX3_reasonToClose_7 : decode cX3_reasonToClose 7 = .ok (.aload_n 0, 1) := by decide +kernel
theorem dX3_reasonToClose_8 : decode cX3_reasonToClose 8 = .ok (.getfield 35, 3) := by decide +kernel
theorem dX3_reasonToClose_11 : decode cX3_reasonToClose 11 = .ok (.iconst 1, 1) := by decide +kernel
theorem dX3_reasonToClose_12 : decode cX3_reasonToClose 12 = .ok (.invokevirtual 155, 3) := by decide +kernel
theorem dX3_reasonToClose_15 : decode cX3_reasonToClose 15 = .ok (.if_icmp .lt 5, 3) := by decide +kernel
theorem dX3_reasonToClose_18 : decode cX3_reasonToClose 18 = .ok (.iconst 2, 1) := by decide +kernel
theorem dX3_reasonToClose_19 : decode cX3_reasonToClose 19 = .ok (.ireturn, 1) := by decide +kernel
theorem dX3_reasonToClose_20 : decode cX3_reasonToClose 20 = .ok (.iload_n 3, 1) := by decide +kernel
theorem dX3_reasonToClose_21 : decode cX3_reasonToClose 21 = .ok (.aload_n 0, 1) := by decide +kernel
theorem dX3_reasonToClose_22 : decode cX3_reasonToClose 22 = .ok (.getfield 75, 3) := by decide +kernel
theorem dX3_reasonToClose_25 : decode cX3_reasonToClose 25 = .ok (.if_icmp .gt 7, 3) := by decide +kernel
theorem dX3_reasonToClose_28 : decode cX3_reasonToClose 28 = .ok (.iconst 3, 1) := by decide +kernel
theorem dX3_reasonToClose_29 : decode cX3_reasonToClose 29 = .ok (.goto 4, 3) := by decide +kernel
theorem dX3_reasonToClose_32 : decode cX3_reasonToClose 32 = .ok (.iconst 0, 1) := by decide +kernel
theorem dX3_reasonToClose_33 : decode cX3_reasonToClose 33 = .ok (.ireturn, 1) := by decide +kernel
theorem dX3_closeGathering_0 : decode cX3_closeGathering 0 = .ok (.aload_n 0, 1) := by decide +kernel
theorem dX3_closeGathering_1 : decode cX3_closeGathering 1 = .ok (.getfield 50, 3) := by decide +kernel
theorem dX3_closeGathering_4 : decode cX3_closeGathering 4 = .ok (.istore_n 2, 1) := by decide +kernel
theorem dX3_closeGathering_5 : decode cX3_closeGathering 5 = .ok (.aload_n 0, 1) := by decide +kernel
theorem dX3_closeGathering_6 : decode cX3_closeGathering 6 = .ok (.bipush (-5), 2) := by decide +kernel
theorem dX3_closeGathering_8 : decode cX3_closeGathering 8 = .ok (.putfield 50, 3) := by decide +kernel
theorem dX3_closeGathering_11 : decode cX3_closeGathering 11 = .ok (.aload_n 0, 1) := by decide +kernel
theorem dX3_closeGathering_12 : decode cX3_closeGathering 12 = .ok (.getfield 21, 3) := by decide +kernel
theorem dX3_closeGathering_15 : decode cX3_closeGathering 15 = .ok (.iload_n 2, 1) := by decide +kernel
theorem dX3_closeGathering_16 : decode cX3_closeGathering 16 = .ok (.iload_n 1, 1) := by decide +kernel
theorem dX3_closeGathering_17 : decode cX3_closeGathering 17 = .ok (.invokevirtual 158, 3) := by decide +kernel
theorem dX3_closeGathering_20 : decode cX3_closeGathering 20 = .ok (.aload_n 0, 1) := by decide +kernel
theorem dX3_closeGathering_21 : decode cX3_closeGathering 21 = .ok (.getfield 12, 3) := by decide +kernel
theorem dX3_closeGathering_24 : decode cX3_closeGathering 24 = .ok (.iload_n 2, 1) := by decide +kernel
theorem dX3_closeGathering_25 : decode cX3_closeGathering 25 = .ok (.iconst 1, 1) := by decide +kernel
theorem dX3_closeGathering_26 : decode cX3_closeGathering 26 = .ok (.iconst 2, 1) := by decide +kernel
theorem dX3_closeGathering_27 : decode cX3_closeGathering 27 = .ok (.invokevirtual 161, 3) := by decide +kernel
theorem dX3_closeGathering_30 : decode cX3_closeGathering 30 = .ok (.aload_n 0, 1) := by decide +kernel
theorem dX3_closeGathering_31 : decode cX3_closeGathering 31 = .ok (.getfield 28, 3) := by decide +kernel
theorem dX3_closeGathering_34 : decode cX3_closeGathering 34 = .ok (.iload_n 2, 1) := by decide +kernel
theorem dX3_closeGathering_35 : decode cX3_closeGathering 35 = .ok (.invokevirtual 165, 3) := by decide +kernel
theorem dX3_closeGathering_38 : decode cX3_closeGathering 38 = .ok (.aload_n 0, 1) := by decide +kernel
theorem dX3_closeGathering_39 : decode cX3_closeGathering 39 = .ok (.getfield 35, 3) := by decide +kernel
theorem dX3_closeGathering_42 : decode cX3_closeGathering 42 = .ok (.iconst 3, 1) := by decide +kernel
theorem dX3_closeGathering_43 : decode cX3_closeGathering 43 = .ok (.invokevirtual 155, 3) := by decide +kernel
theorem dX3_closeGathering_46 : decode cX3_closeGathering 46 = .ok (.iconst 1, 1) := by decide +kernel
theorem dX3_closeGathering_47 : decode cX3_closeGathering 47 = .ok (.if_icmp .ne 15, 3) := by decide +kernel
theorem dX3_closeGathering_50 : decode cX3_closeGathering 50 = .ok (.aload_n 0, 1) := by decide +kernel
theorem dX3_closeGathering_51 : decode cX3_closeGathering 51 = .ok (.aload_n 0, 1) := by decide +kernel
theorem dX3_closeGathering_52 : decode cX3_closeGathering 52 = .ok (.getfield 21, 3) := by decide +kernel
theorem dX3_closeGathering_55 : decode cX3_closeGathering 55 = .ok (.iload_n 2, 1) := by decide +kernel
theorem dX3_closeGathering_56 : decode cX3_closeGathering 56 = .ok (.invokevirtual 143, 3) := by decide +kernel
theorem dX3_closeGathering_59 : decode cX3_closeGathering 59 = .ok (.invokevirtual 167, 3) := by decide +kernel
theorem dX3_closeGathering_62 : decode cX3_closeGathering 62 = .ok (.return_, 1) := by decide +kernel
theorem dX3_learnWait_0 : decode cX3_learnWait 0 = .ok (.iload_n 1, 1) := by decide +kernel
theorem dX3_learnWait_1 : decode cX3_learnWait 1 = .ok (.iconst 1, 1) := by decide +kernel
theorem dX3_learnWait_2 : decode cX3_learnWait 2 = .ok (.if_icmp .le 27, 3) := by decide +kernel
theorem dX3_learnWait_5 : decode cX3_learnWait 5 = .ok (.aload_n 0, 1) := by decide +kernel
theorem dX3_learnWait_6 : decode cX3_learnWait 6 = .ok (.aload_n 0, 1) := by decide +kernel
theorem dX3_learnWait_7 : decode cX3_learnWait 7 = .ok (.getfield 46, 3) := by decide +kernel
theorem dX3_learnWait_10 : decode cX3_learnWait 10 = .ok (.iconst 1, 1) := by decide +kernel
theorem dX3_learnWait_11 : decode cX3_learnWait 11 = .ok (.iadd, 1) := by decide +kernel
theorem dX3_learnWait_12 : decode cX3_learnWait 12 = .ok (.aload_n 0, 1) := by decide +kernel
theorem dX3_learnWait_13 : decode cX3_learnWait 13 = .ok (.getfield 35, 3) := by decide +kernel
theorem dX3_learnWait_16 : decode cX3_learnWait 16 = .ok (.iconst 0, 1) := by decide +kernel
theorem dX3_learnWait_17 : decode cX3_learnWait 17 = .ok (.invokevirtual 155, 3) := by decide +kernel
theorem dX3_learnWait_20 : decode cX3_learnWait 20 = .ok (.invokestatic 170, 3) := by decide +kernel
theorem dX3_learnWait_23 : decode cX3_learnWait 23 = .ok (.putfield 46, 3) := by decide +kernel
theorem dX3_learnWait_26 : decode cX3_learnWait 26 = .ok (.goto 17, 3) := by decide +kernel
theorem dX3_learnWait_29 : decode cX3_learnWait 29 = .ok (.aload_n 0, 1) := by decide +kernel
theorem dX3_learnWait_30 : decode cX3_learnWait 30 = .ok (.aload_n 0, 1) := by decide +kernel
theorem dX3_learnWait_31 : decode cX3_learnWait 31 = .ok (.getfield 46, 3) := by decide +kernel
theorem dX3_learnWait_34 : decode cX3_learnWait 34 = .ok (.iconst 1, 1) := by decide +kernel
theorem dX3_learnWait_35 : decode cX3_learnWait 35 = .ok (.isub, 1) := by decide +kernel
theorem dX3_learnWait_36 : decode cX3_learnWait 36 = .ok (.iconst 0, 1) := by decide +kernel
theorem dX3_learnWait_37 : decode cX3_learnWait 37 = .ok (.invokestatic 176, 3) := by decide +kernel
theorem dX3_learnWait_40 : decode cX3_learnWait 40 = .ok (.putfield 46, 3) := by decide +kernel
theorem dX3_learnWait_43 : decode cX3_learnWait 43 = .ok (.return_, 1) := by decide +kernel
theorem dX3_leaveGathering_0 : decode cX3_leaveGathering 0 = .ok (.aload_n 0, 1) := by decide +kernel
theorem dX3_leaveGathering_1 : decode cX3_leaveGathering 1 = .ok (.getfield 12, 3) := by decide +kernel
theorem dX3_leaveGathering_4 : decode cX3_leaveGathering 4 = .ok (.aload_n 0, 1) := by decide +kernel
theorem dX3_leaveGathering_5 : decode cX3_leaveGathering 5 = .ok (.getfield 50, 3) := by decide +kernel
theorem dX3_leaveGathering_8 : decode cX3_leaveGathering 8 = .ok (.iconst 0, 1) := by decide +kernel
theorem dX3_leaveGathering_9 : decode cX3_leaveGathering 9 = .ok (.invokevirtual 179, 3) := by decide +kernel
theorem dX3_leaveGathering_12 : decode cX3_leaveGathering 12 = .ok (.iload_n 1, 1) := by decide +kernel
theorem dX3_leaveGathering_13 : decode cX3_leaveGathering 13 = .ok (.if_icmp .ne 7, 3) := by decide +kernel
theorem dX3_leaveGathering_16 : decode cX3_leaveGathering 16 = .ok (.iconst 1, 1) := by decide +kernel
theorem dX3_leaveGathering_17 : decode cX3_leaveGathering 17 = .ok (.goto 4, 3) := by decide +kernel
theorem dX3_leaveGathering_20 : decode cX3_leaveGathering 20 = .ok (.iconst 0, 1) := by decide +kernel
theorem dX3_leaveGathering_21 : decode cX3_leaveGathering 21 = .ok (.istore_n 2, 1) := by decide +kernel
theorem dX3_leaveGathering_22 : decode cX3_leaveGathering 22 = .ok (.aload_n 0, 1) := by decide +kernel
theorem dX3_leaveGathering_23 : decode cX3_leaveGathering 23 = .ok (.getfield 12, 3) := by decide +kernel
theorem dX3_leaveGathering_26 : decode cX3_leaveGathering 26 = .ok (.iload_n 1, 1) := by decide +kernel
theorem dX3_leaveGathering_27 : decode cX3_leaveGathering 27 = .ok (.invokevirtual 182, 3) := by decide +kernel
theorem dX3_leaveGathering_30 : decode cX3_leaveGathering 30 = .ok (.aload_n 0, 1) := by decide +kernel
theorem dX3_leaveGathering_31 : decode cX3_leaveGathering 31 = .ok (.getfield 21, 3) := by decide +kernel
theorem dX3_leaveGathering_34 : decode cX3_leaveGathering 34 = .ok (.aload_n 0, 1) := by decide +kernel
theorem dX3_leaveGathering_35 : decode cX3_leaveGathering 35 = .ok (.getfield 50, 3) := by decide +kernel
theorem dX3_leaveGathering_38 : decode cX3_leaveGathering 38 = .ok (.aload_n 0, 1) := by decide +kernel
theorem dX3_leaveGathering_39 : decode cX3_leaveGathering 39 = .ok (.getfield 12, 3) := by decide +kernel
theorem dX3_leaveGathering_42 : decode cX3_leaveGathering 42 = .ok (.iload_n 1, 1) := by decide +kernel
theorem dX3_leaveGathering_43 : decode cX3_leaveGathering 43 = .ok (.invokevirtual 185, 3) := by decide +kernel
theorem dX3_leaveGathering_46 : decode cX3_leaveGathering 46 = .ok (.invokevirtual 186, 3) := by decide +kernel
theorem dX3_leaveGathering_49 : decode cX3_leaveGathering 49 = .ok (.aload_n 0, 1) := by decide +kernel
theorem dX3_leaveGathering_50 : decode cX3_leaveGathering 50 = .ok (.getfield 21, 3) := by decide +kernel
theorem dX3_leaveGathering_53 : decode cX3_leaveGathering 53 = .ok (.aload_n 0, 1) := by decide +kernel
theorem dX3_leaveGathering_54 : decode cX3_leaveGathering 54 = .ok (.getfield 50, 3) := by decide +kernel
theorem dX3_leaveGathering_57 : decode cX3_leaveGathering 57 = .ok (.invokevirtual 143, 3) := by decide +kernel
theorem dX3_leaveGathering_60 : decode cX3_leaveGathering 60 = .ok (.ifCond .ne 24, 3) := by decide +kernel
theorem dX3_leaveGathering_63 : decode cX3_leaveGathering 63 = .ok (.aload_n 0, 1) := by decide +kernel
theorem dX3_leaveGathering_64 : decode cX3_leaveGathering 64 = .ok (.getfield 21, 3) := by decide +kernel
theorem dX3_leaveGathering_67 : decode cX3_leaveGathering 67 = .ok (.aload_n 0, 1) := by decide +kernel
theorem dX3_leaveGathering_68 : decode cX3_leaveGathering 68 = .ok (.getfield 50, 3) := by decide +kernel
theorem dX3_leaveGathering_71 : decode cX3_leaveGathering 71 = .ok (.iconst 5, 1) := by decide +kernel
theorem dX3_leaveGathering_72 : decode cX3_leaveGathering 72 = .ok (.invokevirtual 189, 3) := by decide +kernel
theorem dX3_leaveGathering_75 : decode cX3_leaveGathering 75 = .ok (.aload_n 0, 1) := by decide +kernel
theorem dX3_leaveGathering_76 : decode cX3_leaveGathering 76 = .ok (.bipush (-5), 2) := by decide +kernel
theorem dX3_leaveGathering_78 : decode cX3_leaveGathering 78 = .ok (.putfield 50, 3) := by decide +kernel
theorem dX3_leaveGathering_81 : decode cX3_leaveGathering 81 = .ok (.goto 20, 3) := by decide +kernel
theorem dX3_leaveGathering_84 : decode cX3_leaveGathering 84 = .ok (.iload_n 2, 1) := by decide +kernel
theorem dX3_leaveGathering_85 : decode cX3_leaveGathering 85 = .ok (.ifCond .eq 16, 3) := by decide +kernel
theorem dX3_leaveGathering_88 : decode cX3_leaveGathering 88 = .ok (.aload_n 0, 1) := by decide +kernel
theorem dX3_leaveGathering_89 : decode cX3_leaveGathering 89 = .ok (.aload_n 0, 1) := by decide +kernel
theorem dX3_leaveGathering_90 : decode cX3_leaveGathering 90 = .ok (.getfield 75, 3) := by decide +kernel
theorem dX3_leaveGathering_93 : decode cX3_leaveGathering 93 = .ok (.aload_n 0, 1) := by decide +kernel
theorem dX3_leaveGathering_94 : decode cX3_leaveGathering 94 = .ok (.getfield 46, 3) := by decide +kernel
theorem dX3_leaveGathering_97 : decode cX3_leaveGathering 97 = .ok (.iadd, 1) := by decide +kernel
theorem dX3_leaveGathering_98 : decode cX3_leaveGathering 98 = .ok (.putfield 78, 3) := by decide +kernel
theorem dX3_leaveGathering_101 : decode cX3_leaveGathering 101 = .ok (.return_, 1) := by decide +kernel
theorem dX3_ticksToWrite_0 : decode cX3_ticksToWrite 0 = .ok (.aload_n 0, 1) := by decide +kernel
theorem dX3_ticksToWrite_1 : decode cX3_ticksToWrite 1 = .ok (.getfield 35, 3) := by decide +kernel
theorem dX3_ticksToWrite_4 : decode cX3_ticksToWrite 4 = .ok (.iconst 2, 1) := by decide +kernel
theorem dX3_ticksToWrite_5 : decode cX3_ticksToWrite 5 = .ok (.invokevirtual 155, 3) := by decide +kernel
theorem dX3_ticksToWrite_8 : decode cX3_ticksToWrite 8 = .ok (.iload_n 1, 1) := by decide +kernel
theorem dX3_ticksToWrite_9 : decode cX3_ticksToWrite 9 = .ok (.iconst 4, 1) := by decide +kernel
theorem dX3_ticksToWrite_10 : decode cX3_ticksToWrite 10 = .ok (.idiv, 1) := by decide +kernel
theorem dX3_ticksToWrite_11 : decode cX3_ticksToWrite 11 = .ok (.iadd, 1) := by decide +kernel
theorem dX3_ticksToWrite_12 : decode cX3_ticksToWrite 12 = .ok (.ireturn, 1) := by decide +kernel
theorem dX3_startWriting_0 : decode cX3_startWriting 0 = .ok (.aload_n 0, 1) := by decide +kernel
theorem dX3_startWriting_1 : decode cX3_startWriting 1 = .ok (.getfield 53, 3) := by decide +kernel
theorem dX3_startWriting_4 : decode cX3_startWriting 4 = .ok (.bipush (-5), 2) := by decide +kernel
theorem dX3_startWriting_6 : decode cX3_startWriting 6 = .ok (.if_icmp .ne 13, 3) := by decide +kernel
theorem dX3_startWriting_9 : decode cX3_startWriting 9 = .ok (.aload_n 0, 1) := by decide +kernel
theorem dX3_startWriting_10 : decode cX3_startWriting 10 = .ok (.getfield 28, 3) := by decide +kernel
theorem dX3_startWriting_13 : decode cX3_startWriting 13 = .ok (.invokevirtual 190, 3) := by decide +kernel
theorem dX3_startWriting_16 : decode cX3_startWriting 16 = .ok (.ifCond .ne 4, 3) := by decide +kernel
theorem dX3_startWriting_19 : decode cX3_startWriting 19 = .ok (.return_, 1) := by decide +kernel
theorem dX3_startWriting_20 : decode cX3_startWriting 20 = .ok (.aload_n 0, 1) := by decide +kernel
theorem dX3_startWriting_21 : decode cX3_startWriting 21 = .ok (.aload_n 0, 1) := by decide +kernel
theorem dX3_startWriting_22 : decode cX3_startWriting 22 = .ok (.getfield 28, 3) := by decide +kernel
theorem dX3_startWriting_25 : decode cX3_startWriting 25 = .ok (.invokevirtual 193, 3) := by decide +kernel
theorem dX3_startWriting_28 : decode cX3_startWriting 28 = .ok (.putfield 53, 3) := by decide +kernel
theorem dX3_startWriting_31 : decode cX3_startWriting 31 = .ok (.aload_n 0, 1) := by decide +kernel
theorem dX3_startWriting_32 : decode cX3_startWriting 32 = .ok (.aload_n 0, 1) := by decide +kernel
theorem dX3_startWriting_33 : decode cX3_startWriting 33 = .ok (.aload_n 0, 1) := by decide +kernel
theorem dX3_startWriting_34 : decode cX3_startWriting 34 = .ok (.getfield 21, 3) := by decide +kernel
theorem dX3_startWriting_37 : decode cX3_startWriting 37 = .ok (.aload_n 0, 1) := by decide +kernel
theorem dX3_startWriting_38 : decode cX3_startWriting 38 = .ok (.getfield 53, 3) := by decide +kernel
theorem dX3_startWriting_41 : decode cX3_startWriting 41 = .ok (.invokevirtual 117, 3) := by decide +kernel
theorem dX3_startWriting_44 : decode cX3_startWriting 44 = .ok (.invokevirtual 196, 3) := by decide +kernel
theorem dX3_startWriting_47 : decode cX3_startWriting 47 = .ok (.putfield 81, 3) := by decide +kernel
theorem dX3_startWriting_50 : decode cX3_startWriting 50 = .ok (.aload_n 0, 1) := by decide +kernel
theorem dX3_startWriting_51 : decode cX3_startWriting 51 = .ok (.getfield 21, 3) := by decide +kernel
theorem dX3_startWriting_54 : decode cX3_startWriting 54 = .ok (.aload_n 0, 1) := by decide +kernel
theorem dX3_startWriting_55 : decode cX3_startWriting 55 = .ok (.getfield 53, 3) := by decide +kernel
theorem dX3_startWriting_58 : decode cX3_startWriting 58 = .ok (.iconst 3, 1) := by decide +kernel
theorem dX3_startWriting_59 : decode cX3_startWriting 59 = .ok (.invokevirtual 189, 3) := by decide +kernel
theorem dX3_startWriting_62 : decode cX3_startWriting 62 = .ok (.aload_n 0, 1) := by decide +kernel
theorem dX3_startWriting_63 : decode cX3_startWriting 63 = .ok (.getfield 12, 3) := by decide +kernel
theorem dX3_startWriting_66 : decode cX3_startWriting 66 = .ok (.aload_n 0, 1) := by decide +kernel
theorem dX3_startWriting_67 : decode cX3_startWriting 67 = .ok (.getfield 53, 3) := by decide +kernel
theorem dX3_startWriting_70 : decode cX3_startWriting 70 = .ok (.iconst 2, 1) := by decide +kernel
theorem dX3_startWriting_71 : decode cX3_startWriting 71 = .ok (.iconst 3, 1) := by decide +kernel
theorem dX3_startWriting_72 : decode cX3_startWriting 72 = .ok (.invokevirtual 161, 3) := by decide +kernel
theorem dX3_startWriting_75 : decode cX3_startWriting 75 = .ok (.return_, 1) := by decide +kernel
theorem dX3_change_0 : decode cX3_change 0 = .ok (.aload_n 0, 1) := by decide +kernel
theorem dX3_change_1 : decode cX3_change 1 = .ok (.getfield 35, 3) := by decide +kernel
theorem dX3_change_4 : decode cX3_change 4 = .ok (.iload_n 1, 1) := by decide +kernel
theorem dX3_change_5 : decode cX3_change 5 = .ok (.iload_n 2, 1) := by decide +kernel
theorem dX3_change_6 : decode cX3_change 6 = .ok (.invokevirtual 199, 3) := by decide +kernel
theorem dX3_change_9 : decode cX3_change 9 = .ok (.ireturn, 1) := by decide +kernel
theorem dX3_passTicks_0 : decode cX3_passTicks 0 = .ok (.iconst 0, 1) := by decide +kernel
theorem dX3_passTicks_1 : decode cX3_passTicks 1 = .ok (.istore_n 2, 1) := by decide +kernel
theorem dX3_passTicks_2 : decode cX3_passTicks 2 = .ok (.iconst 0, 1) := by decide +kernel
theorem dX3_passTicks_3 : decode cX3_passTicks 3 = .ok (.istore_n 3, 1) := by decide +kernel
theorem dX3_passTicks_4 : decode cX3_passTicks 4 = .ok (.iload_n 3, 1) := by decide +kernel
theorem dX3_passTicks_5 : decode cX3_passTicks 5 = .ok (.iload_n 1, 1) := by decide +kernel
theorem dX3_passTicks_6 : decode cX3_passTicks 6 = .ok (.if_icmp .ge 16, 3) := by decide +kernel
theorem dX3_passTicks_9 : decode cX3_passTicks 9 = .ok (.iload_n 2, 1) := by decide +kernel
theorem dX3_passTicks_10 : decode cX3_passTicks 10 = .ok (.aload_n 0, 1) := by decide +kernel
theorem dX3_passTicks_11 : decode cX3_passTicks 11 = .ok (.invokevirtual 202, 3) := by decide +kernel
theorem dX3_passTicks_14 : decode cX3_passTicks 14 = .ok (.iadd, 1) := by decide +kernel
theorem dX3_passTicks_15 : decode cX3_passTicks 15 = .ok (.istore_n 2, 1) := by decide +kernel
theorem dX3_passTicks_16 : decode cX3_passTicks 16 = .ok (.iinc 3 1, 3) := by decide +kernel
theorem dX3_passTicks_19 : decode cX3_passTicks 19 = .ok (.goto (-15), 3) := by decide +kernel
theorem dX3_passTicks_22 : decode cX3_passTicks 22 = .ok (.iload_n 2, 1) := by decide +kernel
theorem dX3_passTicks_23 : decode cX3_passTicks 23 = .ok (.ireturn, 1) := by decide +kernel
theorem dX3_passTick_0 : decode cX3_passTick 0 = .ok (.aload_n 0, 1) := by decide +kernel
theorem dX3_passTick_1 : decode cX3_passTick 1 = .ok (.dup, 1) := by decide +kernel
theorem dX3_passTick_2 : decode cX3_passTick 2 = .ok (.getfield 75, 3) := by decide +kernel
theorem dX3_passTick_5 : decode cX3_passTick 5 = .ok (.iconst 1, 1) := by decide +kernel
theorem dX3_passTick_6 : decode cX3_passTick 6 = .ok (.iadd, 1) := by decide +kernel
theorem dX3_passTick_7 : decode cX3_passTick 7 = .ok (.putfield 75, 3) := by decide +kernel
theorem dX3_passTick_10 : decode cX3_passTick 10 = .ok (.iconst 0, 1) := by decide +kernel
theorem dX3_passTick_11 : decode cX3_passTick 11 = .ok (.istore_n 1, 1) := by decide +kernel
theorem dX3_passTick_12 : decode cX3_passTick 12 = .ok (.aload_n 0, 1) := by decide +kernel
theorem dX3_passTick_13 : decode cX3_passTick 13 = .ok (.getfield 53, 3) := by decide +kernel
theorem dX3_passTick_16 : decode cX3_passTick 16 = .ok (.bipush (-5), 2) := by decide +kernel
theorem dX3_passTick_18 : decode cX3_passTick 18 = .ok (.if_icmp .eq 25, 3) := by decide +kernel
theorem dX3_passTick_21 : decode cX3_passTick 21 = .ok (.aload_n 0, 1) := by decide +kernel
theorem dX3_passTick_22 : decode cX3_passTick 22 = .ok (.dup, 1) := by decide +kernel
theorem dX3_passTick_23 : decode cX3_passTick 23 = .ok (.getfield 81, 3) := by decide +kernel
theorem dX3_passTick_26 : decode cX3_passTick 26 = .ok (.iconst 1, 1) := by decide +kernel
theorem dX3_passTick_27 : decode cX3_passTick 27 = .ok (.isub, 1) := by decide +kernel
theorem dX3_passTick_28 : decode cX3_passTick 28 = .ok (.putfield 81, 3) := by decide +kernel
theorem dX3_passTick_31 : decode cX3_passTick 31 = .ok (.aload_n 0, 1) := by decide +kernel
theorem dX3_passTick_32 : decode cX3_passTick 32 = .ok (.getfield 81, 3) := by decide +kernel
theorem dX3_passTick_35 : decode cX3_passTick 35 = .ok (.ifCond .gt 8, 3) := by decide +kernel
theorem dX3_passTick_38 : decode cX3_passTick 38 = .ok (.aload_n 0, 1) := by decide +kernel
theorem dX3_passTick_39 : decode cX3_passTick 39 = .ok (.invokevirtual 205, 3) := by decide +kernel
theorem dX3_passTick_42 : decode cX3_passTick 42 = .ok (.istore_n 1, 1) := by decide +kernel
theorem dX3_passTick_43 : decode cX3_passTick 43 = .ok (.aload_n 0, 1) := by decide +kernel
theorem dX3_passTick_44 : decode cX3_passTick 44 = .ok (.getfield 50, 3) := by decide +kernel
theorem dX3_passTick_47 : decode cX3_passTick 47 = .ok (.bipush (-5), 2) := by decide +kernel
theorem dX3_passTick_49 : decode cX3_passTick 49 = .ok (.if_icmp .eq 19, 3) := by decide +kernel
theorem dX3_passTick_52 : decode cX3_passTick 52 = .ok (.aload_n 0, 1) := by decide +kernel
theorem dX3_passTick_53 : decode cX3_passTick 53 = .ok (.getfield 78, 3) := by decide +kernel
theorem dX3_passTick_56 : decode cX3_passTick 56 = .ok (.aload_n 0, 1) := by decide +kernel
theorem dX3_passTick_57 : decode cX3_passTick 57 = .ok (.getfield 75, 3) := by decide +kernel
theorem dX3_passTick_60 : decode cX3_passTick 60 = .ok (.if_icmp .gt 8, 3) := by decide +kernel
theorem dX3_passTick_63 : decode cX3_passTick 63 = .ok (.aload_n 0, 1) := by decide +kernel
theorem dX3_passTick_64 : decode cX3_passTick 64 = .ok (.iconst 3, 1) := by decide +kernel
theorem dX3_passTick_65 : decode cX3_passTick 65 = .ok (.invokevirtual 124, 3) := by decide +kernel
theorem dX3_passTick_68 : decode cX3_passTick 68 = .ok (.aload_n 0, 1) := by decide +kernel
theorem dX3_passTick_69 : decode cX3_passTick 69 = .ok (.invokevirtual 128, 3) := by decide +kernel
theorem dX3_passTick_72 : decode cX3_passTick 72 = .ok (.iload_n 1, 1) := by decide +kernel
theorem dX3_passTick_73 : decode cX3_passTick 73 = .ok (.ireturn, 1) := by decide +kernel
theorem dX3_finishWriting_0 : decode cX3_finishWriting 0 = .ok (.aload_n 0, 1) := by decide +kernel
theorem dX3_finishWriting_1 : decode cX3_finishWriting 1 = .ok (.getfield 53, 3) := by decide +kernel
theorem dX3_finishWriting_4 : decode cX3_finishWriting 4 = .ok (.istore_n 1, 1) := by decide +kernel
theorem dX3_finishWriting_5 : decode cX3_finishWriting 5 = .ok (.aload_n 0, 1) := by decide +kernel
theorem dX3_finishWriting_6 : decode cX3_finishWriting 6 = .ok (.bipush (-5), 2) := by decide +kernel
theorem dX3_finishWriting_8 : decode cX3_finishWriting 8 = .ok (.putfield 53, 3) := by decide +kernel
theorem dX3_finishWriting_11 : decode cX3_finishWriting 11 = .ok (.aload_n 0, 1) := by decide +kernel
theorem dX3_finishWriting_12 : decode cX3_finishWriting 12 = .ok (.getfield 21, 3) := by decide +kernel
theorem dX3_finishWriting_15 : decode cX3_finishWriting 15 = .ok (.iload_n 1, 1) := by decide +kernel
theorem dX3_finishWriting_16 : decode cX3_finishWriting 16 = .ok (.iconst 4, 1) := by decide +kernel
theorem dX3_finishWriting_17 : decode cX3_finishWriting 17 = .ok (.invokevirtual 189, 3) := by decide +kernel
theorem dX3_finishWriting_20 : decode cX3_finishWriting 20 = .ok (.aload_n 0, 1) := by decide +kernel
theorem dX3_finishWriting_21 : decode cX3_finishWriting 21 = .ok (.getfield 39, 3) := by decide +kernel
theorem dX3_finishWriting_24 : decode cX3_finishWriting 24 = .ok (.iconst 5, 1) := by decide +kernel
theorem dX3_finishWriting_25 : decode cX3_finishWriting 25 = .ok (.dup2, 1) := by decide +kernel
theorem dX3_finishWriting_26 : decode cX3_finishWriting 26 = .ok (.iaload, 1) := by decide +kernel
theorem dX3_finishWriting_27 : decode cX3_finishWriting 27 = .ok (.iconst 1, 1) := by decide +kernel
theorem dX3_finishWriting_28 : decode cX3_finishWriting 28 = .ok (.iadd, 1) := by decide +kernel
theorem dX3_finishWriting_29 : decode cX3_finishWriting 29 = .ok (.iastore, 1) := by decide +kernel
theorem dX3_finishWriting_30 : decode cX3_finishWriting 30 = .ok (.aload_n 0, 1) := by decide +kernel
theorem dX3_finishWriting_31 : decode cX3_finishWriting 31 = .ok (.getfield 39, 3) := by decide +kernel
theorem dX3_finishWriting_34 : decode cX3_finishWriting 34 = .ok (.bipush 6, 2) := by decide +kernel
theorem dX3_finishWriting_36 : decode cX3_finishWriting 36 = .ok (.dup2, 1) := by decide +kernel
theorem dX3_finishWriting_37 : decode cX3_finishWriting 37 = .ok (.iaload, 1) := by decide +kernel
theorem dX3_finishWriting_38 : decode cX3_finishWriting 38 = .ok (.aload_n 0, 1) := by decide +kernel
theorem dX3_finishWriting_39 : decode cX3_finishWriting 39 = .ok (.getfield 21, 3) := by decide +kernel
theorem dX3_finishWriting_42 : decode cX3_finishWriting 42 = .ok (.iload_n 1, 1) := by decide +kernel
theorem dX3_finishWriting_43 : decode cX3_finishWriting 43 = .ok (.invokevirtual 117, 3) := by decide +kernel
theorem dX3_finishWriting_46 : decode cX3_finishWriting 46 = .ok (.iadd, 1) := by decide +kernel
theorem dX3_finishWriting_47 : decode cX3_finishWriting 47 = .ok (.iastore, 1) := by decide +kernel
theorem dX3_finishWriting_48 : decode cX3_finishWriting 48 = .ok (.iconst 0, 1) := by decide +kernel
theorem dX3_finishWriting_49 : decode cX3_finishWriting 49 = .ok (.istore_n 2, 1) := by decide +kernel
theorem dX3_finishWriting_50 : decode cX3_finishWriting 50 = .ok (.iconst 0, 1) := by decide +kernel
theorem dX3_finishWriting_51 : decode cX3_finishWriting 51 = .ok (.istore_n 3, 1) := by decide +kernel
theorem dX3_finishWriting_52 : decode cX3_finishWriting 52 = .ok (.iload_n 3, 1) := by decide +kernel
theorem dX3_finishWriting_53 : decode cX3_finishWriting 53 = .ok (.bipush 12, 2) := by decide +kernel
theorem dX3_finishWriting_55 : decode cX3_finishWriting 55 = .ok (.if_icmp .ge 85, 3) := by decide +kernel
theorem dX3_finishWriting_58 : decode cX3_finishWriting 58 = .ok (.aload_n 0, 1) := by decide +kernel
theorem dX3_finishWriting_59 : decode cX3_finishWriting 59 = .ok (.getfield 43, 3) := by decide +kernel
theorem dX3_finishWriting_62 : decode cX3_finishWriting 62 = .ok (.iload_n 3, 1) := by decide +kernel
theorem dX3_finishWriting_63 : decode cX3_finishWriting 63 = .ok (.iaload, 1) := by decide +kernel
theorem dX3_finishWriting_64 : decode cX3_finishWriting 64 = .ok (.istore 4, 2) := by decide +kernel
theorem dX3_finishWriting_66 : decode cX3_finishWriting 66 = .ok (.iload 4, 2) := by decide +kernel
theorem dX3_finishWriting_68 : decode cX3_finishWriting 68 = .ok (.bipush (-5), 2) := by decide +kernel
theorem dX3_finishWriting_70 : decode cX3_finishWriting 70 = .ok (.if_icmp .eq 64, 3) := by decide +kernel
theorem dX3_finishWriting_73 : decode cX3_finishWriting 73 = .ok (.aload_n 0, 1) := by decide +kernel
theorem dX3_finishWriting_74 : decode cX3_finishWriting 74 = .ok (.getfield 12, 3) := by decide +kernel
theorem dX3_finishWriting_77 : decode cX3_finishWriting 77 = .ok (.iload 4, 2) := by decide +kernel
theorem dX3_finishWriting_79 : decode cX3_finishWriting 79 = .ok (.invokevirtual 140, 3) := by decide +kernel
theorem dX3_finishWriting_82 : decode cX3_finishWriting 82 = .ok (.iload_n 1, 1) := by decide +kernel
theorem dX3_finishWriting_83 : decode cX3_finishWriting 83 = .ok (.if_icmp .ne 51, 3) := by decide +kernel
theorem dX3_finishWriting_86 : decode cX3_finishWriting 86 = .ok (.aload_n 0, 1) := by decide +kernel
theorem dX3_finishWriting_87 : decode cX3_finishWriting 87 = .ok (.getfield 12, 3) := by decide +kernel
theorem dX3_finishWriting_90 : decode cX3_finishWriting 90 = .ok (.iload 4, 2) := by decide +kernel
theorem dX3_finishWriting_92 : decode cX3_finishWriting 92 = .ok (.aload_n 0, 1) := by decide +kernel
theorem dX3_finishWriting_93 : decode cX3_finishWriting 93 = .ok (.getfield 75, 3) := by decide +kernel
theorem dX3_finishWriting_96 : decode cX3_finishWriting 96 = .ok (.invokevirtual 208, 3) := by decide +kernel
theorem dX3_finishWriting_99 : decode cX3_finishWriting 99 = .ok (.aload_n 0, 1) := by decide +kernel
theorem dX3_finishWriting_100 : decode cX3_finishWriting 100 = .ok (.getfield 43, 3) := by decide +kernel
theorem dX3_finishWriting_103 : decode cX3_finishWriting 103 = .ok (.iload_n 3, 1) := by decide +kernel
theorem dX3_finishWriting_104 : decode cX3_finishWriting 104 = .ok (.bipush (-5), 2) := by decide +kernel
theorem dX3_finishWriting_106 : decode cX3_finishWriting 106 = .ok (.iastore, 1) := by decide +kernel
theorem dX3_finishWriting_107 : decode cX3_finishWriting 107 = .ok (.aload_n 0, 1) := by decide +kernel
theorem dX3_finishWriting_108 : decode cX3_finishWriting 108 = .ok (.getfield 39, 3) := by decide +kernel
theorem dX3_finishWriting_111 : decode cX3_finishWriting 111 = .ok (.bipush 7, 2) := by decide +kernel
theorem dX3_finishWriting_113 : decode cX3_finishWriting 113 = .ok (.dup2, 1) := by decide +kernel
theorem dX3_finishWriting_114 : decode cX3_finishWriting 114 = .ok (.iaload, 1) := by decide +kernel
theorem dX3_finishWriting_115 : decode cX3_finishWriting 115 = .ok (.aload_n 0, 1) := by decide +kernel
theorem dX3_finishWriting_116 : decode cX3_finishWriting 116 = .ok (.getfield 75, 3) := by decide +kernel
theorem dX3_finishWriting_119 : decode cX3_finishWriting 119 = .ok (.aload_n 0, 1) := by decide +kernel
theorem dX3_finishWriting_120 : decode cX3_finishWriting 120 = .ok (.getfield 12, 3) := by decide +kernel
theorem dX3_finishWriting_123 : decode cX3_finishWriting 123 = .ok (.iload 4, 2) := by decide +kernel
theorem dX3_finishWriting_125 : decode cX3_finishWriting 125 = .ok (.invokevirtual 211, 3) := by decide +kernel
theorem dX3_finishWriting_128 : decode cX3_finishWriting 128 = .ok (.isub, 1) := by decide +kernel
theorem dX3_finishWriting_129 : decode cX3_finishWriting 129 = .ok (.iadd, 1) := by decide +kernel
theorem dX3_finishWriting_130 : decode cX3_finishWriting 130 = .ok (.iastore, 1) := by decide +kernel
theorem dX3_finishWriting_131 : decode cX3_finishWriting 131 = .ok (.iinc 2 1, 3) := by decide +kernel
theorem dX3_finishWriting_134 : decode cX3_finishWriting 134 = .ok (.iinc 3 1, 3) := by decide +kernel
theorem dX3_finishWriting_137 : decode cX3_finishWriting 137 = .ok (.goto (-85), 3) := by decide +kernel
theorem dX3_finishWriting_140 : decode cX3_finishWriting 140 = .ok (.aload_n 0, 1) := by decide +kernel
theorem dX3_finishWriting_141 : decode cX3_finishWriting 141 = .ok (.getfield 39, 3) := by decide +kernel
theorem dX3_finishWriting_144 : decode cX3_finishWriting 144 = .ok (.iconst 1, 1) := by decide +kernel
theorem dX3_finishWriting_145 : decode cX3_finishWriting 145 = .ok (.dup2, 1) := by decide +kernel
theorem dX3_finishWriting_146 : decode cX3_finishWriting 146 = .ok (.iaload, 1) := by decide +kernel
theorem dX3_finishWriting_147 : decode cX3_finishWriting 147 = .ok (.iload_n 2, 1) := by decide +kernel
theorem dX3_finishWriting_148 : decode cX3_finishWriting 148 = .ok (.iadd, 1) := by decide +kernel
theorem dX3_finishWriting_149 : decode cX3_finishWriting 149 = .ok (.iastore, 1) := by decide +kernel
theorem dX3_finishWriting_150 : decode cX3_finishWriting 150 = .ok (.iload_n 2, 1) := by decide +kernel
theorem dX3_finishWriting_151 : decode cX3_finishWriting 151 = .ok (.ireturn, 1) := by decide +kernel
theorem dX3_loseAll_0 : decode cX3_loseAll 0 = .ok (.iconst 0, 1) := by decide +kernel
theorem dX3_loseAll_1 : decode cX3_loseAll 1 = .ok (.istore_n 1, 1) := by decide +kernel
theorem dX3_loseAll_2 : decode cX3_loseAll 2 = .ok (.iconst 0, 1) := by decide +kernel
theorem dX3_loseAll_3 : decode cX3_loseAll 3 = .ok (.istore_n 2, 1) := by decide +kernel
theorem dX3_loseAll_4 : decode cX3_loseAll 4 = .ok (.iload_n 2, 1) := by decide +kernel
theorem dX3_loseAll_5 : decode cX3_loseAll 5 = .ok (.bipush 12, 2) := by decide +kernel
theorem dX3_loseAll_7 : decode cX3_loseAll 7 = .ok (.if_icmp .ge 34, 3) := by decide +kernel
theorem dX3_loseAll_10 : decode cX3_loseAll 10 = .ok (.aload_n 0, 1) := by decide +kernel
theorem dX3_loseAll_11 : decode cX3_loseAll 11 = .ok (.getfield 43, 3) := by decide +kernel
theorem dX3_loseAll_14 : decode cX3_loseAll 14 = .ok (.iload_n 2, 1) := by decide +kernel
theorem dX3_loseAll_15 : decode cX3_loseAll 15 = .ok (.iaload, 1) := by decide +kernel
theorem dX3_loseAll_16 : decode cX3_loseAll 16 = .ok (.bipush (-5), 2) := by decide +kernel
theorem dX3_loseAll_18 : decode cX3_loseAll 18 = .ok (.if_icmp .eq 17, 3) := by decide +kernel
theorem dX3_loseAll_21 : decode cX3_loseAll 21 = .ok (.aload_n 0, 1) := by decide +kernel
theorem dX3_loseAll_22 : decode cX3_loseAll 22 = .ok (.aload_n 0, 1) := by decide +kernel
theorem dX3_loseAll_23 : decode cX3_loseAll 23 = .ok (.getfield 43, 3) := by decide +kernel
theorem dX3_loseAll_26 : decode cX3_loseAll 26 = .ok (.iload_n 2, 1) := by decide +kernel
theorem dX3_loseAll_27 : decode cX3_loseAll 27 = .ok (.iaload, 1) := by decide +kernel
theorem dX3_loseAll_28 : decode cX3_loseAll 28 = .ok (.iconst 5, 1) := by decide +kernel
theorem dX3_loseAll_29 : decode cX3_loseAll 29 = .ok (.invokevirtual 137, 3) := by decide +kernel
theorem dX3_loseAll_32 : decode cX3_loseAll 32 = .ok (.iinc 1 1, 3) := by decide +kernel
theorem dX3_loseAll_35 : decode cX3_loseAll 35 = .ok (.iinc 2 1, 3) := by decide +kernel
theorem dX3_loseAll_38 : decode cX3_loseAll 38 = .ok (.goto (-34), 3) := by decide +kernel
theorem dX3_loseAll_41 : decode cX3_loseAll 41 = .ok (.aload_n 0, 1) := by decide +kernel
theorem dX3_loseAll_42 : decode cX3_loseAll 42 = .ok (.getfield 39, 3) := by decide +kernel
theorem dX3_loseAll_45 : decode cX3_loseAll 45 = .ok (.iconst 2, 1) := by decide +kernel
theorem dX3_loseAll_46 : decode cX3_loseAll 46 = .ok (.dup2, 1) := by decide +kernel
theorem dX3_loseAll_47 : decode cX3_loseAll 47 = .ok (.iaload, 1) := by decide +kernel
theorem dX3_loseAll_48 : decode cX3_loseAll 48 = .ok (.iload_n 1, 1) := by decide +kernel
theorem dX3_loseAll_49 : decode cX3_loseAll 49 = .ok (.iadd, 1) := by decide +kernel
theorem dX3_loseAll_50 : decode cX3_loseAll 50 = .ok (.iastore, 1) := by decide +kernel
theorem dX3_loseAll_51 : decode cX3_loseAll 51 = .ok (.aload_n 0, 1) := by decide +kernel
theorem dX3_loseAll_52 : decode cX3_loseAll 52 = .ok (.invokevirtual 214, 3) := by decide +kernel
theorem dX3_loseAll_55 : decode cX3_loseAll 55 = .ok (.iload_n 1, 1) := by decide +kernel
theorem dX3_loseAll_56 : decode cX3_loseAll 56 = .ok (.ireturn, 1) := by decide +kernel
theorem dX3_dropGroups_0 : decode cX3_dropGroups 0 = .ok (.aload_n 0, 1) := by decide +kernel
theorem dX3_dropGroups_1 : decode cX3_dropGroups 1 = .ok (.getfield 21, 3) := by decide +kernel
theorem dX3_dropGroups_4 : decode cX3_dropGroups 4 = .ok (.aload_n 0, 1) := by decide +kernel
theorem dX3_dropGroups_5 : decode cX3_dropGroups 5 = .ok (.getfield 53, 3) := by decide +kernel
theorem dX3_dropGroups_8 : decode cX3_dropGroups 8 = .ok (.iconst 5, 1) := by decide +kernel
theorem dX3_dropGroups_9 : decode cX3_dropGroups 9 = .ok (.invokevirtual 189, 3) := by decide +kernel
theorem dX3_dropGroups_12 : decode cX3_dropGroups 12 = .ok (.aload_n 0, 1) := by decide +kernel
theorem dX3_dropGroups_13 : decode cX3_dropGroups 13 = .ok (.bipush (-5), 2) := by decide +kernel
theorem dX3_dropGroups_15 : decode cX3_dropGroups 15 = .ok (.putfield 53, 3) := by decide +kernel
theorem dX3_dropGroups_18 : decode cX3_dropGroups 18 = .ok (.aload_n 0, 1) := by decide +kernel
theorem dX3_dropGroups_19 : decode cX3_dropGroups 19 = .ok (.getfield 21, 3) := by decide +kernel
theorem dX3_dropGroups_22 : decode cX3_dropGroups 22 = .ok (.aload_n 0, 1) := by decide +kernel
theorem dX3_dropGroups_23 : decode cX3_dropGroups 23 = .ok (.getfield 50, 3) := by decide +kernel
theorem dX3_dropGroups_26 : decode cX3_dropGroups 26 = .ok (.iconst 5, 1) := by decide +kernel
theorem dX3_dropGroups_27 : decode cX3_dropGroups 27 = .ok (.invokevirtual 189, 3) := by decide +kernel
theorem dX3_dropGroups_30 : decode cX3_dropGroups 30 = .ok (.aload_n 0, 1) := by decide +kernel
theorem dX3_dropGroups_31 : decode cX3_dropGroups 31 = .ok (.bipush (-5), 2) := by decide +kernel
theorem dX3_dropGroups_33 : decode cX3_dropGroups 33 = .ok (.putfield 50, 3) := by decide +kernel
theorem dX3_dropGroups_36 : decode cX3_dropGroups 36 = .ok (.aload_n 0, 1) := by decide +kernel
theorem dX3_dropGroups_37 : decode cX3_dropGroups 37 = .ok (.getfield 28, 3) := by decide +kernel
theorem dX3_dropGroups_40 : decode cX3_dropGroups 40 = .ok (.invokevirtual 190, 3) := by decide +kernel
theorem dX3_dropGroups_43 : decode cX3_dropGroups 43 = .ok (.istore_n 1, 1) := by decide +kernel
theorem dX3_dropGroups_44 : decode cX3_dropGroups 44 = .ok (.iconst 0, 1) := by decide +kernel
theorem dX3_dropGroups_45 : decode cX3_dropGroups 45 = .ok (.istore_n 2, 1) := by decide +kernel
theorem dX3_dropGroups_46 : decode cX3_dropGroups 46 = .ok (.iload_n 2, 1) := by decide +kernel
theorem dX3_dropGroups_47 : decode cX3_dropGroups 47 = .ok (.iload_n 1, 1) := by decide +kernel
theorem dX3_dropGroups_48 : decode cX3_dropGroups 48 = .ok (.if_icmp .ge 24, 3) := by decide +kernel
theorem dX3_dropGroups_51 : decode cX3_dropGroups 51 = .ok (.aload_n 0, 1) := by decide +kernel
theorem dX3_dropGroups_52 : decode cX3_dropGroups 52 = .ok (.getfield 21, 3) := by decide +kernel
theorem dX3_dropGroups_55 : decode cX3_dropGroups 55 = .ok (.aload_n 0, 1) := by decide +kernel
theorem dX3_dropGroups_56 : decode cX3_dropGroups 56 = .ok (.getfield 28, 3) := by decide +kernel
theorem dX3_dropGroups_59 : decode cX3_dropGroups 59 = .ok (.invokevirtual 193, 3) := by decide +kernel
theorem dX3_dropGroups_62 : decode cX3_dropGroups 62 = .ok (.iconst 5, 1) := by decide +kernel
theorem dX3_dropGroups_63 : decode cX3_dropGroups 63 = .ok (.invokevirtual 189, 3) := by decide +kernel
theorem dX3_dropGroups_66 : decode cX3_dropGroups 66 = .ok (.iinc 2 1, 3) := by decide +kernel
theorem dX3_dropGroups_69 : decode cX3_dropGroups 69 = .ok (.goto (-23), 3) := by decide +kernel
theorem dX3_dropGroups_72 : decode cX3_dropGroups 72 = .ok (.return_, 1) := by decide +kernel
theorem dX3_aboutCommit_0 : decode cX3_aboutCommit 0 = .ok (.aload_n 0, 1) := by decide +kernel
theorem dX3_aboutCommit_1 : decode cX3_aboutCommit 1 = .ok (.getfield 12, 3) := by decide +kernel
theorem dX3_aboutCommit_4 : decode cX3_aboutCommit 4 = .ok (.iload_n 1, 1) := by decide +kernel
theorem dX3_aboutCommit_5 : decode cX3_aboutCommit 5 = .ok (.invokevirtual 217, 3) := by decide +kernel
theorem dX3_aboutCommit_8 : decode cX3_aboutCommit 8 = .ok (.ifCond .ne 5, 3) := by decide +kernel
theorem dX3_aboutCommit_11 : decode cX3_aboutCommit 11 = .ok (.iconst (-1), 1) := by decide +kernel
theorem dX3_aboutCommit_12 : decode cX3_aboutCommit 12 = .ok (.ireturn, 1) := by decide +kernel
theorem dX3_aboutCommit_13 : decode cX3_aboutCommit 13 = .ok (.iload_n 2, 1) := by decide +kernel
theorem dX3_aboutCommit_14 : decode cX3_aboutCommit 14 = .ok (.tableswitch 113 0 6 #[42, 51, 60, 77, 86, 95, 104], 42) := by decide +kernel
theorem dX3_aboutCommit_56 : decode cX3_aboutCommit 56 = .ok (.aload_n 0, 1) := by decide +kernel
theorem dX3_aboutCommit_57 : decode cX3_aboutCommit 57 = .ok (.getfield 12, 3) := by decide +kernel
theorem dX3_aboutCommit_60 : decode cX3_aboutCommit 60 = .ok (.iload_n 1, 1) := by decide +kernel
theorem dX3_aboutCommit_61 : decode cX3_aboutCommit 61 = .ok (.invokevirtual 149, 3) := by decide +kernel
theorem dX3_aboutCommit_64 : decode cX3_aboutCommit 64 = .ok (.ireturn, 1) := by decide +kernel
theorem dX3_aboutCommit_65 : decode cX3_aboutCommit 65 = .ok (.aload_n 0, 1) := by decide +kernel
theorem dX3_aboutCommit_66 : decode cX3_aboutCommit 66 = .ok (.getfield 12, 3) := by decide +kernel
theorem dX3_aboutCommit_69 : decode cX3_aboutCommit 69 = .ok (.iload_n 1, 1) := by decide +kernel
theorem dX3_aboutCommit_70 : decode cX3_aboutCommit 70 = .ok (.invokevirtual 185, 3) := by decide +kernel
theorem dX3_aboutCommit_73 : decode cX3_aboutCommit 73 = .ok (.ireturn, 1) := by decide +kernel
theorem dX3_aboutCommit_74 : decode cX3_aboutCommit 74 = .ok (.aload_n 0, 1) := by decide +kernel
theorem dX3_aboutCommit_75 : decode cX3_aboutCommit 75 = .ok (.getfield 12, 3) := by decide +kernel
theorem dX3_aboutCommit_78 : decode cX3_aboutCommit 78 = .ok (.iload_n 1, 1) := by decide +kernel
theorem dX3_aboutCommit_79 : decode cX3_aboutCommit 79 = .ok (.invokevirtual 220, 3) := by decide +kernel
theorem dX3_aboutCommit_82 : decode cX3_aboutCommit 82 = .ok (.ifCond .eq 7, 3) := by decide +kernel
theorem dX3_aboutCommit_85 : decode cX3_aboutCommit 85 = .ok (.iconst 1, 1) := by decide +kernel
theorem dX3_aboutCommit_86 : decode cX3_aboutCommit 86 = .ok (.goto 4, 3) := by decide +kernel
theorem dX3_aboutCommit_89 : decode cX3_aboutCommit 89 = .ok (.iconst 0, 1) := by decide +kernel
theorem dX3_aboutCommit_90 : decode cX3_aboutCommit 90 = .ok (.ireturn, 1) := by decide +kernel
theorem dX3_aboutCommit_91 : decode cX3_aboutCommit 91 = .ok (.aload_n 0, 1) := by decide +kernel
theorem dX3_aboutCommit_92 : decode cX3_aboutCommit 92 = .ok (.getfield 12, 3) := by decide +kernel
theorem dX3_aboutCommit_95 : decode cX3_aboutCommit 95 = .ok (.iload_n 1, 1) := by decide +kernel
theorem dX3_aboutCommit_96 : decode cX3_aboutCommit 96 = .ok (.invokevirtual 131, 3) := by decide +kernel
theorem dX3_aboutCommit_99 : decode cX3_aboutCommit 99 = .ok (.ireturn, 1) := by decide +kernel
theorem dX3_aboutCommit_100 : decode cX3_aboutCommit 100 = .ok (.aload_n 0, 1) := by decide +kernel
theorem dX3_aboutCommit_101 : decode cX3_aboutCommit 101 = .ok (.getfield 12, 3) := by decide +kernel
theorem dX3_aboutCommit_104 : decode cX3_aboutCommit 104 = .ok (.iload_n 1, 1) := by decide +kernel
theorem dX3_aboutCommit_105 : decode cX3_aboutCommit 105 = .ok (.invokevirtual 211, 3) := by decide +kernel
theorem dX3_aboutCommit_108 : decode cX3_aboutCommit 108 = .ok (.ireturn, 1) := by decide +kernel
theorem dX3_aboutCommit_109 : decode cX3_aboutCommit 109 = .ok (.aload_n 0, 1) := by decide +kernel
theorem dX3_aboutCommit_110 : decode cX3_aboutCommit 110 = .ok (.getfield 12, 3) := by decide +kernel
theorem dX3_aboutCommit_113 : decode cX3_aboutCommit 113 = .ok (.iload_n 1, 1) := by decide +kernel
theorem dX3_aboutCommit_114 : decode cX3_aboutCommit 114 = .ok (.invokevirtual 223, 3) := by decide +kernel
theorem dX3_aboutCommit_117 : decode cX3_aboutCommit 117 = .ok (.ireturn, 1) := by decide +kernel
theorem dX3_aboutCommit_118 : decode cX3_aboutCommit 118 = .ok (.aload_n 0, 1) := by decide +kernel
theorem dX3_aboutCommit_119 : decode cX3_aboutCommit 119 = .ok (.getfield 12, 3) := by decide +kernel
theorem dX3_aboutCommit_122 : decode cX3_aboutCommit 122 = .ok (.iload_n 1, 1) := by decide +kernel
theorem dX3_aboutCommit_123 : decode cX3_aboutCommit 123 = .ok (.invokevirtual 140, 3) := by decide +kernel
theorem dX3_aboutCommit_126 : decode cX3_aboutCommit 126 = .ok (.ireturn, 1) := by decide +kernel
theorem dX3_aboutCommit_127 : decode cX3_aboutCommit 127 = .ok (.bipush (-2), 2) := by decide +kernel
theorem dX3_aboutCommit_129 : decode cX3_aboutCommit 129 = .ok (.ireturn, 1) := by decide +kernel
theorem dX3_aboutGroup_0 : decode cX3_aboutGroup 0 = .ok (.aload_n 0, 1) := by decide +kernel
theorem dX3_aboutGroup_1 : decode cX3_aboutGroup 1 = .ok (.getfield 21, 3) := by decide +kernel
theorem dX3_aboutGroup_4 : decode cX3_aboutGroup 4 = .ok (.iload_n 1, 1) := by decide +kernel
theorem dX3_aboutGroup_5 : decode cX3_aboutGroup 5 = .ok (.invokevirtual 226, 3) := by decide +kernel
theorem dX3_aboutGroup_8 : decode cX3_aboutGroup 8 = .ok (.ifCond .ne 5, 3) := by decide +kernel
theorem dX3_aboutGroup_11 : decode cX3_aboutGroup 11 = .ok (.iconst (-1), 1) := by decide +kernel
theorem dX3_aboutGroup_12 : decode cX3_aboutGroup 12 = .ok (.ireturn, 1) := by decide +kernel
theorem dX3_aboutGroup_13 : decode cX3_aboutGroup 13 = .ok (.iload_n 2, 1) := by decide +kernel
theorem dX3_aboutGroup_14 : decode cX3_aboutGroup 14 = .ok (.tableswitch 144 0 6 #[42, 51, 60, 69, 99, 117, 126], 42) := by decide +kernel
theorem dX3_aboutGroup_56 : decode cX3_aboutGroup 56 = .ok (.aload_n 0, 1) := by decide +kernel
theorem dX3_aboutGroup_57 : decode cX3_aboutGroup 57 = .ok (.getfield 21, 3) := by decide +kernel
theorem dX3_aboutGroup_60 : decode cX3_aboutGroup 60 = .ok (.iload_n 1, 1) := by decide +kernel
theorem dX3_aboutGroup_61 : decode cX3_aboutGroup 61 = .ok (.invokevirtual 227, 3) := by decide +kernel
theorem dX3_aboutGroup_64 : decode cX3_aboutGroup 64 = .ok (.ireturn, 1) := by decide +kernel
theorem dX3_aboutGroup_65 : decode cX3_aboutGroup 65 = .ok (.aload_n 0, 1) := by decide +kernel
theorem dX3_aboutGroup_66 : decode cX3_aboutGroup 66 = .ok (.getfield 21, 3) := by decide +kernel
theorem dX3_aboutGroup_69 : decode cX3_aboutGroup 69 = .ok (.iload_n 1, 1) := by decide +kernel
theorem dX3_aboutGroup_70 : decode cX3_aboutGroup 70 = .ok (.invokevirtual 143, 3) := by decide +kernel
theorem dX3_aboutGroup_73 : decode cX3_aboutGroup 73 = .ok (.ireturn, 1) := by decide +kernel
theorem dX3_aboutGroup_74 : decode cX3_aboutGroup 74 = .ok (.aload_n 0, 1) := by decide +kernel
theorem dX3_aboutGroup_75 : decode cX3_aboutGroup 75 = .ok (.getfield 21, 3) := by decide +kernel
theorem dX3_aboutGroup_78 : decode cX3_aboutGroup 78 = .ok (.iload_n 1, 1) := by decide +kernel
theorem dX3_aboutGroup_79 : decode cX3_aboutGroup 79 = .ok (.invokevirtual 117, 3) := by decide +kernel
theorem dX3_aboutGroup_82 : decode cX3_aboutGroup 82 = .ok (.ireturn, 1) := by decide +kernel
theorem dX3_aboutGroup_83 : decode cX3_aboutGroup 83 = .ok (.iload_n 1, 1) := by decide +kernel
theorem dX3_aboutGroup_84 : decode cX3_aboutGroup 84 = .ok (.aload_n 0, 1) := by decide +kernel
theorem dX3_aboutGroup_85 : decode cX3_aboutGroup 85 = .ok (.getfield 50, 3) := by decide +kernel
theorem dX3_aboutGroup_88 : decode cX3_aboutGroup 88 = .ok (.if_icmp .ne 22, 3) := by decide +kernel
theorem dX3_aboutGroup_91 : decode cX3_aboutGroup 91 = .ok (.aload_n 0, 1) := by decide +kernel
theorem dX3_aboutGroup_92 : decode cX3_aboutGroup 92 = .ok (.getfield 12, 3) := by decide +kernel
theorem dX3_aboutGroup_95 : decode cX3_aboutGroup 95 = .ok (.aload_n 0, 1) := by decide +kernel
theorem dX3_aboutGroup_96 : decode cX3_aboutGroup 96 = .ok (.getfield 12, 3) := by decide +kernel
theorem dX3_aboutGroup_99 : decode cX3_aboutGroup 99 = .ok (.iload_n 1, 1) := by decide +kernel
theorem dX3_aboutGroup_100 : decode cX3_aboutGroup 100 = .ok (.iconst 0, 1) := by decide +kernel
theorem dX3_aboutGroup_101 : decode cX3_aboutGroup 101 = .ok (.invokevirtual 179, 3) := by decide +kernel
theorem dX3_aboutGroup_104 : decode cX3_aboutGroup 104 = .ok (.invokevirtual 149, 3) := by decide +kernel
theorem dX3_aboutGroup_107 : decode cX3_aboutGroup 107 = .ok (.goto 5, 3) := by decide +kernel
theorem dX3_aboutGroup_110 : decode cX3_aboutGroup 110 = .ok (.bipush (-5), 2) := by decide +kernel
theorem dX3_aboutGroup_112 : decode cX3_aboutGroup 112 = .ok (.ireturn, 1) := by decide +kernel
theorem dX3_aboutGroup_113 : decode cX3_aboutGroup 113 = .ok (.iload_n 1, 1) := by decide +kernel
theorem dX3_aboutGroup_114 : decode cX3_aboutGroup 114 = .ok (.aload_n 0, 1) := by decide +kernel
theorem dX3_aboutGroup_115 : decode cX3_aboutGroup 115 = .ok (.getfield 50, 3) := by decide +kernel
theorem dX3_aboutGroup_118 : decode cX3_aboutGroup 118 = .ok (.if_icmp .ne 10, 3) := by decide +kernel
theorem dX3_aboutGroup_121 : decode cX3_aboutGroup 121 = .ok (.aload_n 0, 1) := by decide +kernel
theorem dX3_aboutGroup_122 : decode cX3_aboutGroup 122 = .ok (.getfield 78, 3) := by decide +kernel
theorem dX3_aboutGroup_125 : decode cX3_aboutGroup 125 = .ok (.goto 5, 3) := by decide +kernel
theorem dX3_aboutGroup_128 : decode cX3_aboutGroup 128 = .ok (.bipush (-5), 2) := by decide +kernel
theorem dX3_aboutGroup_130 : decode cX3_aboutGroup 130 = .ok (.ireturn, 1) := by decide +kernel
theorem dX3_aboutGroup_131 : decode cX3_aboutGroup 131 = .ok (.aload_n 0, 1) := by decide +kernel
theorem dX3_aboutGroup_132 : decode cX3_aboutGroup 132 = .ok (.getfield 21, 3) := by decide +kernel
theorem dX3_aboutGroup_135 : decode cX3_aboutGroup 135 = .ok (.iload_n 1, 1) := by decide +kernel
theorem dX3_aboutGroup_136 : decode cX3_aboutGroup 136 = .ok (.invokevirtual 228, 3) := by decide +kernel
theorem dX3_aboutGroup_139 : decode cX3_aboutGroup 139 = .ok (.ireturn, 1) := by decide +kernel
theorem dX3_aboutGroup_140 : decode cX3_aboutGroup 140 = .ok (.iload_n 1, 1) := by decide +kernel
theorem dX3_aboutGroup_141 : decode cX3_aboutGroup 141 = .ok (.aload_n 0, 1) := by decide +kernel
theorem dX3_aboutGroup_142 : decode cX3_aboutGroup 142 = .ok (.getfield 53, 3) := by decide +kernel
theorem dX3_aboutGroup_145 : decode cX3_aboutGroup 145 = .ok (.if_icmp .ne 10, 3) := by decide +kernel
theorem dX3_aboutGroup_148 : decode cX3_aboutGroup 148 = .ok (.aload_n 0, 1) := by decide +kernel
theorem dX3_aboutGroup_149 : decode cX3_aboutGroup 149 = .ok (.getfield 81, 3) := by decide +kernel
theorem dX3_aboutGroup_152 : decode cX3_aboutGroup 152 = .ok (.goto 5, 3) := by decide +kernel
theorem dX3_aboutGroup_155 : decode cX3_aboutGroup 155 = .ok (.bipush (-5), 2) := by decide +kernel
theorem dX3_aboutGroup_157 : decode cX3_aboutGroup 157 = .ok (.ireturn, 1) := by decide +kernel
theorem dX3_aboutGroup_158 : decode cX3_aboutGroup 158 = .ok (.bipush (-2), 2) := by decide +kernel
theorem dX3_aboutGroup_160 : decode cX3_aboutGroup 160 = .ok (.ireturn, 1) := by decide +kernel
theorem dX3_memberAt_0 : decode cX3_memberAt 0 = .ok (.aload_n 0, 1) := by decide +kernel
theorem dX3_memberAt_1 : decode cX3_memberAt 1 = .ok (.getfield 21, 3) := by decide +kernel
theorem dX3_memberAt_4 : decode cX3_memberAt 4 = .ok (.iload_n 1, 1) := by decide +kernel
theorem dX3_memberAt_5 : decode cX3_memberAt 5 = .ok (.invokevirtual 226, 3) := by decide +kernel
theorem dX3_memberAt_8 : decode cX3_memberAt 8 = .ok (.ifCond .ne 5, 3) := by decide +kernel
theorem dX3_memberAt_11 : decode cX3_memberAt 11 = .ok (.iconst (-1), 1) := by decide +kernel
theorem dX3_memberAt_12 : decode cX3_memberAt 12 = .ok (.ireturn, 1) := by decide +kernel
theorem dX3_memberAt_13 : decode cX3_memberAt 13 = .ok (.iload_n 2, 1) := by decide +kernel
theorem dX3_memberAt_14 : decode cX3_memberAt 14 = .ok (.ifCond .ge 6, 3) := by decide +kernel
theorem dX3_memberAt_17 : decode cX3_memberAt 17 = .ok (.bipush (-2), 2) := by decide +kernel
theorem dX3_memberAt_19 : decode cX3_memberAt 19 = .ok (.ireturn, 1) := by decide +kernel
theorem dX3_memberAt_20 : decode cX3_memberAt 20 = .ok (.aload_n 0, 1) := by decide +kernel
theorem dX3_memberAt_21 : decode cX3_memberAt 21 = .ok (.getfield 12, 3) := by decide +kernel
theorem dX3_memberAt_24 : decode cX3_memberAt 24 = .ok (.iload_n 1, 1) := by decide +kernel
theorem dX3_memberAt_25 : decode cX3_memberAt 25 = .ok (.iload_n 2, 1) := by decide +kernel
theorem dX3_memberAt_26 : decode cX3_memberAt 26 = .ok (.invokevirtual 179, 3) := by decide +kernel
theorem dX3_memberAt_29 : decode cX3_memberAt 29 = .ok (.ireturn, 1) := by decide +kernel
theorem dX3_queuedAt_0 : decode cX3_queuedAt 0 = .ok (.aload_n 0, 1) := by decide +kernel
theorem dX3_queuedAt_1 : decode cX3_queuedAt 1 = .ok (.getfield 28, 3) := by decide +kernel
theorem dX3_queuedAt_4 : decode cX3_queuedAt 4 = .ok (.iload_n 1, 1) := by decide +kernel
theorem dX3_queuedAt_5 : decode cX3_queuedAt 5 = .ok (.invokevirtual 231, 3) := by decide +kernel
theorem dX3_queuedAt_8 : decode cX3_queuedAt 8 = .ok (.ireturn, 1) := by decide +kernel
theorem dX3_aboutNow_0 : decode cX3_aboutNow 0 = .ok (.iload_n 1, 1) := by decide +kernel
theorem dX3_aboutNow_1 : decode cX3_aboutNow 1 = .ok (.tableswitch 100 0 9 #[55, 60, 65, 70, 75, 83, 88, 88, 88, 88], 55) := by decide +kernel
theorem dX3_aboutNow_56 : decode cX3_aboutNow 56 = .ok (.aload_n 0, 1) := by decide +kernel
theorem dX3_aboutNow_57 : decode cX3_aboutNow 57 = .ok (.getfield 75, 3) := by decide +kernel
theorem dX3_aboutNow_60 : decode cX3_aboutNow 60 = .ok (.ireturn, 1) := by decide +kernel
theorem dX3_aboutNow_61 : decode cX3_aboutNow 61 = .ok (.aload_n 0, 1) := by decide +kernel
theorem dX3_aboutNow_62 : decode cX3_aboutNow 62 = .ok (.getfield 46, 3) := by decide +kernel
theorem dX3_aboutNow_65 : decode cX3_aboutNow 65 = .ok (.ireturn, 1) := by decide +kernel
theorem dX3_aboutNow_66 : decode cX3_aboutNow 66 = .ok (.aload_n 0, 1) := by decide +kernel
theorem dX3_aboutNow_67 : decode cX3_aboutNow 67 = .ok (.getfield 50, 3) := by decide +kernel
theorem dX3_aboutNow_70 : decode cX3_aboutNow 70 = .ok (.ireturn, 1) := by decide +kernel
theorem dX3_aboutNow_71 : decode cX3_aboutNow 71 = .ok (.aload_n 0, 1) := by decide +kernel
theorem dX3_aboutNow_72 : decode cX3_aboutNow 72 = .ok (.getfield 53, 3) := by decide +kernel
theorem dX3_aboutNow_75 : decode cX3_aboutNow 75 = .ok (.ireturn, 1) := by decide +kernel
theorem dX3_aboutNow_76 : decode cX3_aboutNow 76 = .ok (.aload_n 0, 1) := by decide +kernel
theorem dX3_aboutNow_77 : decode cX3_aboutNow 77 = .ok (.getfield 28, 3) := by decide +kernel
theorem dX3_aboutNow_80 : decode cX3_aboutNow 80 = .ok (.invokevirtual 190, 3) := by decide +kernel
theorem dX3_aboutNow_83 : decode cX3_aboutNow 83 = .ok (.ireturn, 1) := by decide +kernel
theorem dX3_aboutNow_84 : decode cX3_aboutNow 84 = .ok (.aload_n 0, 1) := by decide +kernel
theorem dX3_aboutNow_85 : decode cX3_aboutNow 85 = .ok (.invokevirtual 99, 3) := by decide +kernel
theorem dX3_aboutNow_88 : decode cX3_aboutNow 88 = .ok (.ireturn, 1) := by decide +kernel
theorem dX3_aboutNow_89 : decode cX3_aboutNow 89 = .ok (.aload_n 0, 1) := by decide +kernel
theorem dX3_aboutNow_90 : decode cX3_aboutNow 90 = .ok (.getfield 35, 3) := by decide +kernel
theorem dX3_aboutNow_93 : decode cX3_aboutNow 93 = .ok (.iload_n 1, 1) := by decide +kernel
theorem dX3_aboutNow_94 : decode cX3_aboutNow 94 = .ok (.bipush 6, 2) := by decide +kernel
theorem dX3_aboutNow_96 : decode cX3_aboutNow 96 = .ok (.isub, 1) := by decide +kernel
theorem dX3_aboutNow_97 : decode cX3_aboutNow 97 = .ok (.invokevirtual 155, 3) := by decide +kernel
theorem dX3_aboutNow_100 : decode cX3_aboutNow 100 = .ok (.ireturn, 1) := by decide +kernel
theorem dX3_aboutNow_101 : decode cX3_aboutNow 101 = .ok (.bipush (-2), 2) := by decide +kernel
theorem dX3_aboutNow_103 : decode cX3_aboutNow 103 = .ok (.ireturn, 1) := by decide +kernel
theorem dX3_totalOf_0 : decode cX3_totalOf 0 = .ok (.iload_n 1, 1) := by decide +kernel
theorem dX3_totalOf_1 : decode cX3_totalOf 1 = .ok (.ifCond .lt 18, 3) := by decide +kernel
theorem dX3_totalOf_4 : decode cX3_totalOf 4 = .ok (.iload_n 1, 1) := by decide +kernel
theorem dX3_totalOf_5 : decode cX3_totalOf 5 = .ok (.bipush 8, 2) := by decide +kernel
theorem dX3_totalOf_7 : decode cX3_totalOf 7 = .ok (.if_icmp .ge 12, 3) := by decide +kernel
theorem dX3_totalOf_10 : decode cX3_totalOf 10 = .ok (.aload_n 0, 1) := by decide +kernel
theorem dX3_totalOf_11 : decode cX3_totalOf 11 = .ok (.getfield 39, 3) := by decide +kernel
theorem dX3_totalOf_14 : decode cX3_totalOf 14 = .ok (.iload_n 1, 1) := by decide +kernel
theorem dX3_totalOf_15 : decode cX3_totalOf 15 = .ok (.iaload, 1) := by decide +kernel
theorem dX3_totalOf_16 : decode cX3_totalOf 16 = .ok (.goto 5, 3) := by decide +kernel
theorem dX3_totalOf_19 : decode cX3_totalOf 19 = .ok (.bipush (-2), 2) := by decide +kernel
theorem dX3_totalOf_21 : decode cX3_totalOf 21 = .ok (.ireturn, 1) := by decide +kernel
theorem dX3_meanTicks_0 : decode cX3_meanTicks 0 = .ok (.aload_n 0, 1) := by decide +kernel
theorem dX3_meanTicks_1 : decode cX3_meanTicks 1 = .ok (.getfield 39, 3) := by decide +kernel
theorem dX3_meanTicks_4 : decode cX3_meanTicks 4 = .ok (.iconst 1, 1) := by decide +kernel
theorem dX3_meanTicks_5 : decode cX3_meanTicks 5 = .ok (.iaload, 1) := by decide +kernel
theorem dX3_meanTicks_6 : decode cX3_meanTicks 6 = .ok (.istore_n 1, 1) := by decide +kernel
theorem dX3_meanTicks_7 : decode cX3_meanTicks 7 = .ok (.iload_n 1, 1) := by decide +kernel
theorem dX3_meanTicks_8 : decode cX3_meanTicks 8 = .ok (.ifCond .ne 7, 3) := by decide +kernel
theorem dX3_meanTicks_11 : decode cX3_meanTicks 11 = .ok (.dconst 0, 1) := by decide +kernel
theorem dX3_meanTicks_12 : decode cX3_meanTicks 12 = .ok (.goto 14, 3) := by decide +kernel
theorem dX3_meanTicks_15 : decode cX3_meanTicks 15 = .ok (.aload_n 0, 1) := by decide +kernel
theorem dX3_meanTicks_16 : decode cX3_meanTicks 16 = .ok (.getfield 39, 3) := by decide +kernel
theorem dX3_meanTicks_19 : decode cX3_meanTicks 19 = .ok (.bipush 7, 2) := by decide +kernel
theorem dX3_meanTicks_21 : decode cX3_meanTicks 21 = .ok (.iaload, 1) := by decide +kernel
theorem dX3_meanTicks_22 : decode cX3_meanTicks 22 = .ok (.i2d, 1) := by decide +kernel
theorem dX3_meanTicks_23 : decode cX3_meanTicks 23 = .ok (.iload_n 1, 1) := by decide +kernel
theorem dX3_meanTicks_24 : decode cX3_meanTicks 24 = .ok (.i2d, 1) := by decide +kernel
theorem dX3_meanTicks_25 : decode cX3_meanTicks 25 = .ok (.ddiv, 1) := by decide +kernel
theorem dX3_meanTicks_26 : decode cX3_meanTicks 26 = .ok (.dreturn, 1) := by decide +kernel
