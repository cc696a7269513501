theorem dX8_init_0 : decode cX8_init 0 = .ok (.aload_n 0, 1) := by decide +kernel
theorem dX8_init_1 : decode cX8_init 1 = .ok (.invokespecial 1, 3) := by decide +kernel
theorem dX8_init_4 : decode cX8_init 4 = .ok (.aload_n 0, 1) := by decide +kernel
theorem dX8_init_5 : decode cX8_init 5 = .ok (.sipush 1816, 3) := by decide +kernel
theorem dX8_init_8 : decode cX8_init 8 = .ok (.newarray .int, 2) := by decide +kernel
theorem dX8_init_10 : decode cX8_init 10 = .ok (.putfield 7, 3) := by decide +kernel
theorem dX8_init_13 : decode cX8_init 13 = .ok (.aload_n 0, 1) := by decide +kernel
theorem dX8_init_14 : decode cX8_init 14 = .ok (.sipush 1816, 3) := by decide +kernel
theorem dX8_init_17 : decode cX8_init 17 = .ok (.newarray .int, 2) := by decide +kernel
theorem dX8_init_19 : decode cX8_init 19 = .ok (.putfield 13, 3) := by decide +kernel
theorem dX8_init_22 : decode cX8_init 22 = .ok (.aload_n 0, 1) := by decide +kernel
theorem dX8_init_23 : decode cX8_init 23 = .ok (.sipush 7264, 3) := by decide +kernel
theorem dX8_init_26 : decode cX8_init 26 = .ok (.newarray .int, 2) := by decide +kernel
theorem dX8_init_28 : decode cX8_init 28 = .ok (.putfield 16, 3) := by decide +kernel
theorem dX8_init_31 : decode cX8_init 31 = .ok (.aload_n 0, 1) := by decide +kernel
theorem dX8_init_32 : decode cX8_init 32 = .ok (.sipush 1816, 3) := by decide +kernel
theorem dX8_init_35 : decode cX8_init 35 = .ok (.newarray .int, 2) := by decide +kernel
theorem dX8_init_37 : decode cX8_init 37 = .ok (.putfield 19, 3) := by decide +kernel
theorem dX8_init_40 : decode cX8_init 40 = .ok (.aload_n 0, 1) := by decide +kernel
theorem dX8_init_41 : decode cX8_init 41 = .ok (.bipush 80, 2) := by decide +kernel
theorem dX8_init_43 : decode cX8_init 43 = .ok (.newarray .int, 2) := by decide +kernel
theorem dX8_init_45 : decode cX8_init 45 = .ok (.putfield 22, 3) := by decide +kernel
theorem dX8_init_48 : decode cX8_init 48 = .ok (.aload_n 0, 1) := by decide +kernel
theorem dX8_init_49 : decode cX8_init 49 = .ok (.getfield 7, 3) := by decide +kernel
theorem dX8_init_52 : decode cX8_init 52 = .ok (.iconst 1, 1) := by decide +kernel
theorem dX8_init_53 : decode cX8_init 53 = .ok (.iconst 2, 1) := by decide +kernel
theorem dX8_init_54 : decode cX8_init 54 = .ok (.iastore, 1) := by decide +kernel
theorem dX8_init_55 : decode cX8_init 55 = .ok (.aload_n 0, 1) := by decide +kernel
theorem dX8_init_56 : decode cX8_init 56 = .ok (.getfield 7, 3) := by decide +kernel
theorem dX8_init_59 : decode cX8_init 59 = .ok (.iconst 2, 1) := by decide +kernel
theorem dX8_init_60 : decode cX8_init 60 = .ok (.bipush 6, 2) := by decide +kernel
theorem dX8_init_62 : decode cX8_init 62 = .ok (.iastore, 1) := by decide +kernel
theorem dX8_init_63 : decode cX8_init 63 = .ok (.aload_n 0, 1) := by decide +kernel
theorem dX8_init_64 : decode cX8_init 64 = .ok (.getfield 7, 3) := by decide +kernel
theorem dX8_init_67 : decode cX8_init 67 = .ok (.iconst 3, 1) := by decide +kernel
theorem dX8_init_68 : decode cX8_init 68 = .ok (.bipush 16, 2) := by decide +kernel
theorem dX8_init_70 : decode cX8_init 70 = .ok (.iastore, 1) := by decide +kernel
theorem dX8_init_71 : decode cX8_init 71 = .ok (.aload_n 0, 1) := by decide +kernel
theorem dX8_init_72 : decode cX8_init 72 = .ok (.getfield 7, 3) := by decide +kernel
theorem dX8_init_75 : decode cX8_init 75 = .ok (.iconst 4, 1) := by decide +kernel
theorem dX8_init_76 : decode cX8_init 76 = .ok (.iconst 4, 1) := by decide +kernel
theorem dX8_init_77 : decode cX8_init 77 = .ok (.iastore, 1) := by decide +kernel
theorem dX8_init_78 : decode cX8_init 78 = .ok (.aload_n 0, 1) := by decide +kernel
theorem dX8_init_79 : decode cX8_init 79 = .ok (.getfield 7, 3) := by decide +kernel
theorem dX8_init_82 : decode cX8_init 82 = .ok (.iconst 5, 1) := by decide +kernel
theorem dX8_init_83 : decode cX8_init 83 = .ok (.iconst 1, 1) := by decide +kernel
theorem dX8_init_84 : decode cX8_init 84 = .ok (.iastore, 1) := by decide +kernel
theorem dX8_init_85 : decode cX8_init 85 = .ok (.aload_n 0, 1) := by decide +kernel
theorem dX8_init_86 : decode cX8_init 86 = .ok (.getfield 7, 3) := by decide +kernel
theorem dX8_init_89 : decode cX8_init 89 = .ok (.bipush 8, 2) := by decide +kernel
theorem dX8_init_91 : decode cX8_init 91 = .ok (.bipush (-5), 2) := by decide +kernel
theorem dX8_init_93 : decode cX8_init 93 = .ok (.iastore, 1) := by decide +kernel
theorem dX8_init_94 : decode cX8_init 94 = .ok (.aload_n 0, 1) := by decide +kernel
theorem dX8_init_95 : decode cX8_init 95 = .ok (.getfield 7, 3) := by decide +kernel
theorem dX8_init_98 : decode cX8_init 98 = .ok (.bipush 9, 2) := by decide +kernel
theorem dX8_init_100 : decode cX8_init 100 = .ok (.bipush (-5), 2) := by decide +kernel
theorem dX8_init_102 : decode cX8_init 102 = .ok (.iastore, 1) := by decide +kernel
theorem dX8_init_103 : decode cX8_init 103 = .ok (.return_, 1) := by decide +kernel
theorem dX8_within_0 : decode cX8_within 0 = .ok (.iload_n 0, 1) := by decide +kernel
theorem dX8_within_1 : decode cX8_within 1 = .ok (.iload_n 1, 1) := by decide +kernel
theorem dX8_within_2 : decode cX8_within 2 = .ok (.if_icmp .lt 12, 3) := by decide +kernel
theorem dX8_within_5 : decode cX8_within 5 = .ok (.iload_n 0, 1) := by decide +kernel
theorem dX8_within_6 : decode cX8_within 6 = .ok (.iload_n 2, 1) := by decide +kernel
theorem dX8_within_7 : decode cX8_within 7 = .ok (.if_icmp .gt 7, 3) := by decide +kernel
theorem dX8_within_10 : decode cX8_within 10 = .ok (.iconst 1, 1) := by decide +kernel
theorem dX8_within_11 : decode cX8_within 11 = .ok (.goto 4, 3) := by decide +kernel
theorem dX8_within_14 : decode cX8_within 14 = .ok (.iconst 0, 1) := by decide +kernel
theorem dX8_within_15 : decode cX8_within 15 = .ok (.ireturn, 1) := by decide +kernel
theorem dX8_isClient_0 : decode cX8_isClient 0 = .ok (.iload_n 0, 1) := by decide +kernel
theorem dX8_isClient_1 : decode cX8_isClient 1 = .ok (.iconst 0, 1) := by decide +kernel
theorem dX8_isClient_2 : decode cX8_isClient 2 = .ok (.bipush 11, 2) := by decide +kernel
theorem dX8_isClient_4 : decode cX8_isClient 4 = .ok (.invokestatic 25, 3) := by decide +kernel
theorem dX8_isClient_7 : decode cX8_isClient 7 = .ok (.ireturn, 1) := by decide +kernel
theorem dX8_of_0 : decode cX8_of 0 = .ok (.aload_n 0, 1) := by decide +kernel
theorem dX8_of_1 : decode cX8_of 1 = .ok (.getfield 7, 3) := by decide +kernel
theorem dX8_of_4 : decode cX8_of 4 = .ok (.bipush 16, 2) := by decide +kernel
theorem dX8_of_6 : decode cX8_of 6 = .ok (.bipush 8, 2) := by decide +kernel
theorem dX8_of_8 : decode cX8_of 8 = .ok (.iload_n 1, 1) := by decide +kernel
theorem dX8_of_9 : decode cX8_of 9 = .ok (.imul, 1) := by decide +kernel
theorem dX8_of_10 : decode cX8_of 10 = .ok (.iadd, 1) := by decide +kernel
theorem dX8_of_11 : decode cX8_of 11 = .ok (.iload_n 2, 1) := by decide +kernel
theorem dX8_of_12 : decode cX8_of 12 = .ok (.iadd, 1) := by decide +kernel
theorem dX8_of_13 : decode cX8_of 13 = .ok (.iaload, 1) := by decide +kernel
theorem dX8_of_14 : decode cX8_of 14 = .ok (.ireturn, 1) := by decide +kernel
theorem dX8_setOf_0 : decode cX8_setOf 0 = .ok (.aload_n 0, 1) := by decide +kernel
theorem dX8_setOf_1 : decode cX8_setOf 1 = .ok (.getfield 7, 3) := by decide +kernel
theorem dX8_setOf_4 : decode cX8_setOf 4 = .ok (.bipush 16, 2) := by decide +kernel
theorem dX8_setOf_6 : decode cX8_setOf 6 = .ok (.bipush 8, 2) := by decide +kernel
theorem dX8_setOf_8 : decode cX8_setOf 8 = .ok (.iload_n 1, 1) := by decide +kernel
theorem dX8_setOf_9 : decode cX8_setOf 9 = .ok (.imul, 1) := by decide +kernel
theorem dX8_setOf_10 : decode cX8_setOf 10 = .ok (.iadd, 1) := by decide +kernel
theorem dX8_setOf_11 : decode cX8_setOf 11 = .ok (.iload_n 2, 1) := by decide +kernel
theorem dX8_setOf_12 : decode cX8_setOf 12 = .ok (.iadd, 1) := by decide +kernel
theorem dX8_setOf_13 : decode cX8_setOf 13 = .ok (.iload_n 3, 1) := by decide +kernel
theorem dX8_setOf_14 : decode cX8_setOf 14 = .ok (.iastore, 1) := by decide +kernel
theorem dX8_setOf_15 : decode cX8_setOf 15 = .ok (.return_, 1) := by decide +kernel
theorem dX8_ofGroup_0 : decode cX8_ofGroup 0 = .ok (.aload_n 0, 1) := by decide +kernel
theorem dX8_ofGroup_1 : decode cX8_ofGroup 1 = .ok (.getfield 7, 3) := by decide +kernel
theorem dX8_ofGroup_4 : decode cX8_ofGroup 4 = .ok (.sipush 1216, 3) := by decide +kernel
theorem dX8_ofGroup_7 : decode cX8_ofGroup 7 = .ok (.iconst 4, 1) := by decide +kernel
theorem dX8_ofGroup_8 : decode cX8_ofGroup 8 = .ok (.iload_n 1, 1) := by decide +kernel
theorem dX8_ofGroup_9 : decode cX8_ofGroup 9 = .ok (.imul, 1) := by decide +kernel
theorem dX8_ofGroup_10 : decode cX8_ofGroup 10 = .ok (.iadd, 1) := by decide +kernel
theorem dX8_ofGroup_11 : decode cX8_ofGroup 11 = .ok (.iload_n 2, 1) := by decide +kernel
theorem dX8_ofGroup_12 : decode cX8_ofGroup 12 = .ok (.iadd, 1) := by decide +kernel
theorem dX8_ofGroup_13 : decode cX8_ofGroup 13 = .ok (.iaload, 1) := by decide +kernel
theorem dX8_ofGroup_14 : decode cX8_ofGroup 14 = .ok (.ireturn, 1) := by decide +kernel
theorem dX8_setGroup_0 : decode cX8_setGroup 0 = .ok (.aload_n 0, 1) := by decide +kernel
theorem dX8_setGroup_1 : decode cX8_setGroup 1 = .ok (.getfield 7, 3) := by decide +kernel
theorem dX8_setGroup_4 : decode cX8_setGroup 4 = .ok (.sipush 1216, 3) := by decide +kernel
theorem dX8_setGroup_7 : decode cX8_setGroup 7 = .ok (.iconst 4, 1) := by decide +kernel
theorem dX8_setGroup_8 : decode cX8_setGroup 8 = .ok (.iload_n 1, 1) := by decide +kernel
theorem dX8_setGroup_9 : decode cX8_setGroup 9 = .ok (.imul, 1) := by decide +kernel
theorem dX8_setGroup_10 : decode cX8_setGroup 10 = .ok (.iadd, 1) := by decide +kernel
theorem dX8_setGroup_11 : decode cX8_setGroup 11 = .ok (.iload_n 2, 1) := by decide +kernel
theorem dX8_setGroup_12 : decode cX8_setGroup 12 = .ok (.iadd, 1) := by decide +kernel
theorem dX8_setGroup_13 : decode cX8_setGroup 13 = .ok (.iload_n 3, 1) := by decide +kernel
theorem dX8_setGroup_14 : decode cX8_setGroup 14 = .ok (.iastore, 1) := by decide +kernel
theorem dX8_setGroup_15 : decode cX8_setGroup 15 = .ok (.return_, 1) := by decide +kernel
theorem dX8_record_0 : decode cX8_record 0 = .ok (.aload_n 0, 1) := by decide +kernel
theorem dX8_record_1 : decode cX8_record 1 = .ok (.getfield 29, 3) := by decide +kernel
theorem dX8_record_4 : decode cX8_record 4 = .ok (.iconst 4, 1) := by decide +kernel
theorem dX8_record_5 : decode cX8_record 5 = .ok (.if_icmp .ne 44, 3) := by decide +kernel
theorem dX8_record_8 : decode cX8_record 8 = .ok (.iconst 0, 1) := by decide +kernel
theorem dX8_record_9 : decode cX8_record 9 = .ok (.istore_n 1, 1) := by decide +kernel
theorem dX8_record_10 : decode cX8_record 10 = .ok (.iload_n 1, 1) := by decide +kernel
theorem dX8_record_11 : decode cX8_record 11 = .ok (.sipush 5448, 3) := by decide +kernel
theorem dX8_record_14 : decode cX8_record 14 = .ok (.if_icmp .ge 25, 3) := by decide +kernel
theorem dX8_record_17 : decode cX8_record 17 = .ok (.aload_n 0, 1) := by decide +kernel
theorem dX8_record_18 : decode cX8_record 18 = .ok (.getfield 16, 3) := by decide +kernel
theorem dX8_record_21 : decode cX8_record 21 = .ok (.iload_n 1, 1) := by decide +kernel
theorem dX8_record_22 : decode cX8_record 22 = .ok (.aload_n 0, 1) := by decide +kernel
theorem dX8_record_23 : decode cX8_record 23 = .ok (.getfield 16, 3) := by decide +kernel
theorem dX8_record_26 : decode cX8_record 26 = .ok (.iload_n 1, 1) := by decide +kernel
theorem dX8_record_27 : decode cX8_record 27 = .ok (.sipush 1816, 3) := by decide +kernel
theorem dX8_record_30 : decode cX8_record 30 = .ok (.iadd, 1) := by decide +kernel
theorem dX8_record_31 : decode cX8_record 31 = .ok (.iaload, 1) := by decide +kernel
theorem dX8_record_32 : decode cX8_record 32 = .ok (.iastore, 1) := by decide +kernel
theorem dX8_record_33 : decode cX8_record 33 = .ok (.iinc 1 1, 3) := by decide +kernel
theorem dX8_record_36 : decode cX8_record 36 = .ok (.goto (-26), 3) := by decide +kernel
theorem dX8_record_39 : decode cX8_record 39 = .ok (.aload_n 0, 1) := by decide +kernel
theorem dX8_record_40 : decode cX8_record 40 = .ok (.dup, 1) := by decide +kernel
theorem dX8_record_41 : decode cX8_record 41 = .ok (.getfield 29, 3) := by decide +kernel
theorem dX8_record_44 : decode cX8_record 44 = .ok (.iconst 1, 1) := by decide +kernel
theorem dX8_record_45 : decode cX8_record 45 = .ok (.isub, 1) := by decide +kernel
theorem dX8_record_46 : decode cX8_record 46 = .ok (.putfield 29, 3) := by decide +kernel
theorem dX8_record_49 : decode cX8_record 49 = .ok (.iconst 0, 1) := by decide +kernel
theorem dX8_record_50 : decode cX8_record 50 = .ok (.istore_n 1, 1) := by decide +kernel
theorem dX8_record_51 : decode cX8_record 51 = .ok (.iload_n 1, 1) := by decide +kernel
theorem dX8_record_52 : decode cX8_record 52 = .ok (.sipush 1816, 3) := by decide +kernel
theorem dX8_record_55 : decode cX8_record 55 = .ok (.if_icmp .ge 30, 3) := by decide +kernel
theorem dX8_record_58 : decode cX8_record 58 = .ok (.aload_n 0, 1) := by decide +kernel
theorem dX8_record_59 : decode cX8_record 59 = .ok (.getfield 16, 3) := by decide +kernel
theorem dX8_record_62 : decode cX8_record 62 = .ok (.aload_n 0, 1) := by decide +kernel
theorem dX8_record_63 : decode cX8_record 63 = .ok (.getfield 29, 3) := by decide +kernel
theorem dX8_record_66 : decode cX8_record 66 = .ok (.sipush 1816, 3) := by decide +kernel
theorem dX8_record_69 : decode cX8_record 69 = .ok (.imul, 1) := by decide +kernel
theorem dX8_record_70 : decode cX8_record 70 = .ok (.iload_n 1, 1) := by decide +kernel
theorem dX8_record_71 : decode cX8_record 71 = .ok (.iadd, 1) := by decide +kernel
theorem dX8_record_72 : decode cX8_record 72 = .ok (.aload_n 0, 1) := by decide +kernel
theorem dX8_record_73 : decode cX8_record 73 = .ok (.getfield 7, 3) := by decide +kernel
theorem dX8_record_76 : decode cX8_record 76 = .ok (.iload_n 1, 1) := by decide +kernel
theorem dX8_record_77 : decode cX8_record 77 = .ok (.iaload, 1) := by decide +kernel
theorem dX8_record_78 : decode cX8_record 78 = .ok (.iastore, 1) := by decide +kernel
theorem dX8_record_79 : decode cX8_record 79 = .ok (.iinc 1 1, 3) := by decide +kernel
theorem dX8_record_82 : decode cX8_record 82 = .ok (.goto (-31), 3) := by decide +kernel
theorem dX8_record_85 : decode cX8_record 85 = .ok (.aload_n 0, 1) := by decide +kernel
theorem dX8_record_86 : decode cX8_record 86 = .ok (.dup, 1) := by decide +kernel
theorem dX8_record_87 : decode cX8_record 87 = .ok (.getfield 29, 3) := by decide +kernel
theorem dX8_record_90 : decode cX8_record 90 = .ok (.iconst 1, 1) := by decide +kernel
theorem dX8_record_91 : decode cX8_record 91 = .ok (.iadd, 1) := by decide +kernel
theorem dX8_record_92 : decode cX8_record 92 = .ok (.putfield 29, 3) := by decide +kernel
theorem dX8_record_95 : decode cX8_record 95 = .ok (.return_, 1) := by decide +kernel
theorem dX8_undo_0 : decode cX8_undo 0 = .ok (.aload_n 0, 1) := by decide +kernel
theorem dX8_undo_1 : decode cX8_undo 1 = .ok (.getfield 29, 3) := by decide +kernel
theorem dX8_undo_4 : decode cX8_undo 4 = .ok (.ifCond .ne 6, 3) := by decide +kernel
theorem dX8_undo_7 : decode cX8_undo 7 = .ok (.bipush (-5), 2) := by decide +kernel
theorem dX8_undo_9 : decode cX8_undo 9 = .ok (.ireturn, 1) := by decide +kernel
theorem dX8_undo_10 : decode cX8_undo 10 = .ok (.aload_n 0, 1) := by decide +kernel
theorem dX8_undo_11 : decode cX8_undo 11 = .ok (.dup, 1) := by decide +kernel
theorem dX8_undo_12 : decode cX8_undo 12 = .ok (.getfield 29, 3) := by decide +kernel
theorem dX8_undo_15 : decode cX8_undo 15 = .ok (.iconst 1, 1) := by decide +kernel
theorem dX8_undo_16 : decode cX8_undo 16 = .ok (.isub, 1) := by decide +kernel
theorem dX8_undo_17 : decode cX8_undo 17 = .ok (.putfield 29, 3) := by decide +kernel
theorem dX8_undo_20 : decode cX8_undo 20 = .ok (.iconst 0, 1) := by decide +kernel
theorem dX8_undo_21 : decode cX8_undo 21 = .ok (.istore_n 1, 1) := by decide +kernel
theorem dX8_undo_22 : decode cX8_undo 22 = .ok (.iload_n 1, 1) := by decide +kernel
theorem dX8_undo_23 : decode cX8_undo 23 = .ok (.sipush 1816, 3) := by decide +kernel
theorem dX8_undo_26 : decode cX8_undo 26 = .ok (.if_icmp .ge 30, 3) := by decide +kernel
theorem dX8_undo_29 : decode cX8_undo 29 = .ok (.aload_n 0, 1) := by decide +kernel
theorem dX8_undo_30 : decode cX8_undo 30 = .ok (.getfield 7, 3) := by decide +kernel
theorem dX8_undo_33 : decode cX8_undo 33 = .ok (.iload_n 1, 1) := by decide +kernel
theorem dX8_undo_34 : decode cX8_undo 34 = .ok (.aload_n 0, 1) := by decide +kernel
theorem dX8_undo_35 : decode cX8_undo 35 = .ok (.getfield 16, 3) := by decide +kernel
theorem dX8_undo_38 : decode cX8_undo 38 = .ok (.aload_n 0, 1) := by decide +kernel
theorem dX8_undo_39 : decode cX8_undo 39 = .ok (.getfield 29, 3) := by decide +kernel
theorem dX8_undo_42 : decode cX8_undo 42 = .ok (.sipush 1816, 3) := by decide +kernel
theorem dX8_undo_45 : decode cX8_undo 45 = .ok (.imul, 1) := by decide +kernel
theorem dX8_undo_46 : decode cX8_undo 46 = .ok (.iload_n 1, 1) := by decide +kernel
theorem dX8_undo_47 : decode cX8_undo 47 = .ok (.iadd, 1) := by decide +kernel
theorem dX8_undo_48 : decode cX8_undo 48 = .ok (.iaload, 1) := by decide +kernel
theorem dX8_undo_49 : decode cX8_undo 49 = .ok (.iastore, 1) := by decide +kernel
theorem dX8_undo_50 : decode cX8_undo 50 = .ok (.iinc 1 1, 3) := by decide +kernel
theorem dX8_undo_53 : decode cX8_undo 53 = .ok (.goto (-31), 3) := by decide +kernel
theorem dX8_undo_56 : decode cX8_undo 56 = .ok (.aload_n 0, 1) := by decide +kernel
theorem dX8_undo_57 : decode cX8_undo 57 = .ok (.getfield 29, 3) := by decide +kernel
theorem dX8_undo_60 : decode cX8_undo 60 = .ok (.ireturn, 1) := by decide +kernel
theorem dX8_save_0 : decode cX8_save 0 = .ok (.iconst 0, 1) := by decide +kernel
theorem dX8_save_1 : decode cX8_save 1 = .ok (.istore_n 1, 1) := by decide +kernel
theorem dX8_save_2 : decode cX8_save 2 = .ok (.iload_n 1, 1) := by decide +kernel
theorem dX8_save_3 : decode cX8_save 3 = .ok (.sipush 1816, 3) := by decide +kernel
theorem dX8_save_6 : decode cX8_save 6 = .ok (.if_icmp .ge 21, 3) := by decide +kernel
theorem dX8_save_9 : decode cX8_save 9 = .ok (.aload_n 0, 1) := by decide +kernel
theorem dX8_save_10 : decode cX8_save 10 = .ok (.getfield 19, 3) := by decide +kernel
theorem dX8_save_13 : decode cX8_save 13 = .ok (.iload_n 1, 1) := by decide +kernel
theorem dX8_save_14 : decode cX8_save 14 = .ok (.aload_n 0, 1) := by decide +kernel
theorem dX8_save_15 : decode cX8_save 15 = .ok (.getfield 7, 3) := by decide +kernel
theorem dX8_save_18 : decode cX8_save 18 = .ok (.iload_n 1, 1) := by decide +kernel
theorem dX8_save_19 : decode cX8_save 19 = .ok (.iaload, 1) := by decide +kernel
theorem dX8_save_20 : decode cX8_save 20 = .ok (.iastore, 1) := by decide +kernel
theorem dX8_save_21 : decode cX8_save 21 = .ok (.iinc 1 1, 3) := by decide +kernel
theorem dX8_save_24 : decode cX8_save 24 = .ok (.goto (-22), 3) := by decide +kernel
theorem dX8_save_27 : decode cX8_save 27 = .ok (.aload_n 0, 1) := by decide +kernel
theorem dX8_save_28 : decode cX8_save 28 = .ok (.iconst 1, 1) := by decide +kernel
theorem dX8_save_29 : decode cX8_save 29 = .ok (.putfield 33, 3) := by decide +kernel
theorem dX8_save_32 : decode cX8_save 32 = .ok (.aload_n 0, 1) := by decide +kernel
theorem dX8_save_33 : decode cX8_save 33 = .ok (.getfield 7, 3) := by decide +kernel
theorem dX8_save_36 : decode cX8_save 36 = .ok (.iconst 0, 1) := by decide +kernel
theorem dX8_save_37 : decode cX8_save 37 = .ok (.iaload, 1) := by decide +kernel
theorem dX8_save_38 : decode cX8_save 38 = .ok (.ireturn, 1) := by decide +kernel
theorem dX8_restore_0 : decode cX8_restore 0 = .ok (.aload_n 0, 1) := by decide +kernel
theorem dX8_restore_1 : decode cX8_restore 1 = .ok (.getfield 33, 3) := by decide +kernel
theorem dX8_restore_4 : decode cX8_restore 4 = .ok (.ifCond .ne 6, 3) := by decide +kernel
theorem dX8_restore_7 : decode cX8_restore 7 = .ok (.bipush (-4), 2) := by decide +kernel
theorem dX8_restore_9 : decode cX8_restore 9 = .ok (.ireturn, 1) := by decide +kernel
theorem dX8_restore_10 : decode cX8_restore 10 = .ok (.aload_n 0, 1) := by decide +kernel
theorem dX8_restore_11 : decode cX8_restore 11 = .ok (.invokevirtual 37, 3) := by decide +kernel
theorem dX8_restore_14 : decode cX8_restore 14 = .ok (.iconst 0, 1) := by decide +kernel
theorem dX8_restore_15 : decode cX8_restore 15 = .ok (.istore_n 1, 1) := by decide +kernel
theorem dX8_restore_16 : decode cX8_restore 16 = .ok (.iload_n 1, 1) := by decide +kernel
theorem dX8_restore_17 : decode cX8_restore 17 = .ok (.sipush 1816, 3) := by decide +kernel
theorem dX8_restore_20 : decode cX8_restore 20 = .ok (.if_icmp .ge 21, 3) := by decide +kernel
theorem dX8_restore_23 : decode cX8_restore 23 = .ok (.aload_n 0, 1) := by decide +kernel
theorem dX8_restore_24 : decode cX8_restore 24 = .ok (.getfield 7, 3) := by decide +kernel
theorem dX8_restore_27 : decode cX8_restore 27 = .ok (.iload_n 1, 1) := by decide +kernel
theorem dX8_restore_28 : decode cX8_restore 28 = .ok (.aload_n 0, 1) := by decide +kernel
theorem dX8_restore_29 : decode cX8_restore 29 = .ok (.getfield 19, 3) := by decide +kernel
theorem dX8_restore_32 : decode cX8_restore 32 = .ok (.iload_n 1, 1) := by decide +kernel
theorem dX8_restore_33 : decode cX8_restore 33 = .ok (.iaload, 1) := by decide +kernel
theorem dX8_restore_34 : decode cX8_restore 34 = .ok (.iastore, 1) := by decide +kernel
theorem dX8_restore_35 : decode cX8_restore 35 = .ok (.iinc 1 1, 3) := by decide +kernel
theorem dX8_restore_38 : decode cX8_restore 38 = .ok (.goto (-22), 3) := by decide +kernel
theorem dX8_restore_41 : decode cX8_restore 41 = .ok (.aload_n 0, 1) := by decide +kernel
theorem dX8_restore_42 : decode cX8_restore 42 = .ok (.getfield 7, 3) := by decide +kernel
theorem dX8_restore_45 : decode cX8_restore 45 = .ok (.iconst 0, 1) := by decide +kernel
theorem dX8_restore_46 : decode cX8_restore 46 = .ok (.iaload, 1) := by decide +kernel
theorem dX8_restore_47 : decode cX8_restore 47 = .ok (.ireturn, 1) := by decide +kernel
theorem dX8_putAside_0 : decode cX8_putAside 0 = .ok (.iconst 0, 1) := by decide +kernel
theorem dX8_putAside_1 : decode cX8_putAside 1 = .ok (.istore_n 1, 1) := by decide +kernel
theorem dX8_putAside_2 : decode cX8_putAside 2 = .ok (.iload_n 1, 1) := by decide +kernel
theorem dX8_putAside_3 : decode cX8_putAside 3 = .ok (.sipush 1816, 3) := by decide +kernel
theorem dX8_putAside_6 : decode cX8_putAside 6 = .ok (.if_icmp .ge 21, 3) := by decide +kernel
theorem dX8_putAside_9 : decode cX8_putAside 9 = .ok (.aload_n 0, 1) := by decide +kernel
theorem dX8_putAside_10 : decode cX8_putAside 10 = .ok (.getfield 13, 3) := by decide +kernel
theorem dX8_putAside_13 : decode cX8_putAside 13 = .ok (.iload_n 1, 1) := by decide +kernel
theorem dX8_putAside_14 : decode cX8_putAside 14 = .ok (.aload_n 0, 1) := by decide +kernel
theorem dX8_putAside_15 : decode cX8_putAside 15 = .ok (.getfield 7, 3) := by decide +kernel
theorem dX8_putAside_18 : decode cX8_putAside 18 = .ok (.iload_n 1, 1) := by decide +kernel
theorem dX8_putAside_19 : decode cX8_putAside 19 = .ok (.iaload, 1) := by decide +kernel
theorem dX8_putAside_20 : decode cX8_putAside 20 = .ok (.iastore, 1) := by decide +kernel
theorem dX8_putAside_21 : decode cX8_putAside 21 = .ok (.iinc 1 1, 3) := by decide +kernel
theorem dX8_putAside_24 : decode cX8_putAside 24 = .ok (.goto (-22), 3) := by decide +kernel
theorem dX8_putAside_27 : decode cX8_putAside 27 = .ok (.return_, 1) := by decide +kernel
theorem dX8_takeBack_0 : decode cX8_takeBack 0 = .ok (.iconst 0, 1) := by decide +kernel
theorem dX8_takeBack_1 : decode cX8_takeBack 1 = .ok (.istore_n 1, 1) := by decide +kernel
theorem dX8_takeBack_2 : decode cX8_takeBack 2 = .ok (.iload_n 1, 1) := by decide +kernel
theorem dX8_takeBack_3 : decode cX8_takeBack 3 = .ok (.sipush 1816, 3) := by decide +kernel
theorem dX8_takeBack_6 : decode cX8_takeBack 6 = .ok (.if_icmp .ge 21, 3) := by decide +kernel
theorem dX8_takeBack_9 : decode cX8_takeBack 9 = .ok (.aload_n 0, 1) := by decide +kernel
theorem dX8_takeBack_10 : decode cX8_takeBack 10 = .ok (.getfield 7, 3) := by decide +kernel
theorem dX8_takeBack_13 : decode cX8_takeBack 13 = .ok (.iload_n 1, 1) := by decide +kernel
theorem dX8_takeBack_14 : decode cX8_takeBack 14 = .ok (.aload_n 0, 1) := by decide +kernel
theorem dX8_takeBack_15 : decode cX8_takeBack 15 = .ok (.getfield 13, 3) := by decide +kernel
theorem dX8_takeBack_18 : decode cX8_takeBack 18 = .ok (.iload_n 1, 1) := by decide +kernel
theorem dX8_takeBack_19 : decode cX8_takeBack 19 = .ok (.iaload, 1) := by decide +kernel
theorem dX8_takeBack_20 : decode cX8_takeBack 20 = .ok (.iastore, 1) := by decide +kernel
theorem dX8_takeBack_21 : decode cX8_takeBack 21 = .ok (.iinc 1 1, 3) := by decide +kernel
theorem dX8_takeBack_24 : decode cX8_takeBack 24 = .ok (.goto (-22), 3) := by decide +kernel
theorem dX8_takeBack_27 : decode cX8_takeBack 27 = .ok (.return_, 1) := by decide +kernel
theorem dX8_isIn_0 : decode cX8_isIn 0 = .ok (.aload_n 0, 1) := by decide +kernel
theorem dX8_isIn_1 : decode cX8_isIn 1 = .ok (.iload_n 1, 1) := by decide +kernel
theorem dX8_isIn_2 : decode cX8_isIn 2 = .ok (.bipush 6, 2) := by decide +kernel
theorem dX8_isIn_4 : decode cX8_isIn 4 = .ok (.invokevirtual 40, 3) := by decide +kernel
theorem dX8_isIn_7 : decode cX8_isIn 7 = .ok (.iload_n 2, 1) := by decide +kernel
theorem dX8_isIn_8 : decode cX8_isIn 8 = .ok (.if_icmp .ne 18, 3) := by decide +kernel
theorem dX8_isIn_11 : decode cX8_isIn 11 = .ok (.aload_n 0, 1) := by decide +kernel
theorem dX8_isIn_12 : decode cX8_isIn 12 = .ok (.iload_n 1, 1) := by decide +kernel
theorem dX8_isIn_13 : decode cX8_isIn 13 = .ok (.bipush 7, 2) := by decide +kernel
theorem dX8_isIn_15 : decode cX8_isIn 15 = .ok (.invokevirtual 40, 3) := by decide +kernel
theorem dX8_isIn_18 : decode cX8_isIn 18 = .ok (.iconst 1, 1) := by decide +kernel
theorem dX8_isIn_19 : decode cX8_isIn 19 = .ok (.if_icmp .ne 7, 3) := by decide +kernel
theorem dX8_isIn_22 : decode cX8_isIn 22 = .ok (.iconst 1, 1) := by decide +kernel
theorem dX8_isIn_23 : decode cX8_isIn 23 = .ok (.goto 4, 3) := by decide +kernel
theorem dX8_isIn_26 : decode cX8_isIn 26 = .ok (.iconst 0, 1) := by decide +kernel
theorem dX8_isIn_27 : decode cX8_isIn 27 = .ok (.ireturn, 1) := by decide +kernel
theorem dX8_members_0 : decode cX8_members 0 = .ok (.iconst 0, 1) := by decide +kernel
theorem dX8_members_1 : decode cX8_members 1 = .ok (.istore_n 2, 1) := by decide +kernel
theorem dX8_members_2 : decode cX8_members 2 = .ok (.iconst 0, 1) := by decide +kernel
theorem dX8_members_3 : decode cX8_members 3 = .ok (.istore_n 3, 1) := by decide +kernel
theorem dX8_members_4 : decode cX8_members 4 = .ok (.iload_n 3, 1) := by decide +kernel
theorem dX8_members_5 : decode cX8_members 5 = .ok (.aload_n 0, 1) := by decide +kernel
theorem dX8_members_6 : decode cX8_members 6 = .ok (.getfield 7, 3) := by decide +kernel
theorem dX8_members_9 : decode cX8_members 9 = .ok (.bipush 6, 2) := by decide +kernel
theorem dX8_members_11 : decode cX8_members 11 = .ok (.iaload, 1) := by decide +kernel
theorem dX8_members_12 : decode cX8_members 12 = .ok (.if_icmp .ge 26, 3) := by decide +kernel
theorem dX8_members_15 : decode cX8_members 15 = .ok (.iload_n 2, 1) := by decide +kernel
theorem dX8_members_16 : decode cX8_members 16 = .ok (.aload_n 0, 1) := by decide +kernel
theorem dX8_members_17 : decode cX8_members 17 = .ok (.iload_n 3, 1) := by decide +kernel
theorem dX8_members_18 : decode cX8_members 18 = .ok (.iload_n 1, 1) := by decide +kernel
theorem dX8_members_19 : decode cX8_members 19 = .ok (.invokevirtual 44, 3) := by decide +kernel
theorem dX8_members_22 : decode cX8_members 22 = .ok (.ifCond .eq 7, 3) := by decide +kernel
theorem dX8_members_25 : decode cX8_members 25 = .ok (.iconst 1, 1) := by decide +kernel
theorem dX8_members_26 : decode cX8_members 26 = .ok (.goto 4, 3) := by decide +kernel
theorem dX8_members_29 : decode cX8_members 29 = .ok (.iconst 0, 1) := by decide +kernel
theorem dX8_members_30 : decode cX8_members 30 = .ok (.iadd, 1) := by decide +kernel
theorem dX8_members_31 : decode cX8_members 31 = .ok (.istore_n 2, 1) := by decide +kernel
theorem dX8_members_32 : decode cX8_members 32 = .ok (.iinc 3 1, 3) := by decide +kernel
theorem dX8_members_35 : decode cX8_members 35 = .ok (.goto (-31), 3) := by decide +kernel
theorem dX8_members_38 : decode cX8_members 38 = .ok (.iload_n 2, 1) := by decide +kernel
theorem dX8_members_39 : decode cX8_members 39 = .ok (.ireturn, 1) := by decide +kernel
theorem dX8_recordsOf_0 : decode cX8_recordsOf 0 = .ok (.iconst 0, 1) := by decide +kernel
theorem dX8_recordsOf_1 : decode cX8_recordsOf 1 = .ok (.istore_n 2, 1) := by decide +kernel
theorem dX8_recordsOf_2 : decode cX8_recordsOf 2 = .ok (.iconst 0, 1) := by decide +kernel
theorem dX8_recordsOf_3 : decode cX8_recordsOf 3 = .ok (.istore_n 3, 1) := by decide +kernel
theorem dX8_recordsOf_4 : decode cX8_recordsOf 4 = .ok (.iload_n 3, 1) := by decide +kernel
theorem dX8_recordsOf_5 : decode cX8_recordsOf 5 = .ok (.aload_n 0, 1) := by decide +kernel
theorem dX8_recordsOf_6 : decode cX8_recordsOf 6 = .ok (.getfield 7, 3) := by decide +kernel
theorem dX8_recordsOf_9 : decode cX8_recordsOf 9 = .ok (.bipush 6, 2) := by decide +kernel
theorem dX8_recordsOf_11 : decode cX8_recordsOf 11 = .ok (.iaload, 1) := by decide +kernel
theorem dX8_recordsOf_12 : decode cX8_recordsOf 12 = .ok (.if_icmp .ge 31, 3) := by decide +kernel
theorem dX8_recordsOf_15 : decode cX8_recordsOf 15 = .ok (.iload_n 2, 1) := by decide +kernel
theorem dX8_recordsOf_16 : decode cX8_recordsOf 16 = .ok (.aload_n 0, 1) := by decide +kernel
theorem dX8_recordsOf_17 : decode cX8_recordsOf 17 = .ok (.iload_n 3, 1) := by decide +kernel
theorem dX8_recordsOf_18 : decode cX8_recordsOf 18 = .ok (.iload_n 1, 1) := by decide +kernel
theorem dX8_recordsOf_19 : decode cX8_recordsOf 19 = .ok (.invokevirtual 44, 3) := by decide +kernel
theorem dX8_recordsOf_22 : decode cX8_recordsOf 22 = .ok (.ifCond .eq 12, 3) := by decide +kernel
theorem dX8_recordsOf_25 : decode cX8_recordsOf 25 = .ok (.aload_n 0, 1) := by decide +kernel
theorem dX8_recordsOf_26 : decode cX8_recordsOf 26 = .ok (.iload_n 3, 1) := by decide +kernel
theorem dX8_recordsOf_27 : decode cX8_recordsOf 27 = .ok (.iconst 1, 1) := by decide +kernel
theorem dX8_recordsOf_28 : decode cX8_recordsOf 28 = .ok (.invokevirtual 40, 3) := by decide +kernel
theorem dX8_recordsOf_31 : decode cX8_recordsOf 31 = .ok (.goto 4, 3) := by decide +kernel
theorem dX8_recordsOf_34 : decode cX8_recordsOf 34 = .ok (.iconst 0, 1) := by decide +kernel
theorem dX8_recordsOf_35 : decode cX8_recordsOf 35 = .ok (.iadd, 1) := by decide +kernel
theorem dX8_recordsOf_36 : decode cX8_recordsOf 36 = .ok (.istore_n 2, 1) := by decide +kernel
theorem dX8_recordsOf_37 : decode cX8_recordsOf 37 = .ok (.iinc 3 1, 3) := by decide +kernel
theorem dX8_recordsOf_40 : decode cX8_recordsOf 40 = .ok (.goto (-36), 3) := by decide +kernel
theorem dX8_recordsOf_43 : decode cX8_recordsOf 43 = .ok (.iload_n 2, 1) := by decide +kernel
theorem dX8_recordsOf_44 : decode cX8_recordsOf 44 = .ok (.ireturn, 1) := by decide +kernel
theorem dX8_memberAt_0 : decode cX8_memberAt 0 = .ok (.iload_n 2, 1) := by decide +kernel
theorem dX8_memberAt_1 : decode cX8_memberAt 1 = .ok (.istore_n 3, 1) := by decide +kernel
theorem dX8_memberAt_2 : decode cX8_memberAt 2 = .ok (.iconst 0, 1) := by decide +kernel
theorem dX8_memberAt_3 : decode cX8_memberAt 3 = .ok (.istore 4, 2) := by decide +kernel
theorem dX8_memberAt_5 : decode cX8_memberAt 5 = .ok (.iload 4, 2) := by decide +kernel
theorem dX8_memberAt_7 : decode cX8_memberAt 7 = .ok (.aload_n 0, 1) := by decide +kernel
theorem dX8_memberAt_8 : decode cX8_memberAt 8 = .ok (.getfield 7, 3) := by decide +kernel
theorem dX8_memberAt_11 : decode cX8_memberAt 11 = .ok (.bipush 6, 2) := by decide +kernel
theorem dX8_memberAt_13 : decode cX8_memberAt 13 = .ok (.iaload, 1) := by decide +kernel
theorem dX8_memberAt_14 : decode cX8_memberAt 14 = .ok (.if_icmp .ge 29, 3) := by decide +kernel
theorem dX8_memberAt_17 : decode cX8_memberAt 17 = .ok (.aload_n 0, 1) := by decide +kernel
theorem dX8_memberAt_18 : decode cX8_memberAt 18 = .ok (.iload 4, 2) := by decide +kernel
theorem dX8_memberAt_20 : decode cX8_memberAt 20 = .ok (.iload_n 1, 1) := by decide +kernel
theorem dX8_memberAt_21 : decode cX8_memberAt 21 = .ok (.invokevirtual 44, 3) := by decide +kernel
theorem dX8_memberAt_24 : decode cX8_memberAt 24 = .ok (.ifCond .eq 13, 3) := by decide +kernel
theorem dX8_memberAt_27 : decode cX8_memberAt 27 = .ok (.iload_n 3, 1) := by decide +kernel
theorem dX8_memberAt_28 : decode cX8_memberAt 28 = .ok (.ifCond .ne 6, 3) := by decide +kernel
theorem dX8_memberAt_31 : decode cX8_memberAt 31 = .ok (.iload 4, 2) := by decide +kernel
theorem dX8_memberAt_33 : decode cX8_memberAt 33 = .ok (.ireturn, 1) := by decide +kernel
theorem dX8_memberAt_34 : decode cX8_memberAt 34 = .ok (.iinc 3 (-1), 3) := by decide +kernel
theorem dX8_memberAt_37 : decode cX8_memberAt 37 = .ok (.iinc 4 1, 3) := by decide +kernel
theorem dX8_memberAt_40 : decode cX8_memberAt 40 = .ok (.goto (-35), 3) := by decide +kernel
theorem dX8_memberAt_43 : decode cX8_memberAt 43 = .ok (.bipush (-5), 2) := by decide +kernel
theorem dX8_memberAt_45 : decode cX8_memberAt 45 = .ok (.ireturn, 1) := by decide +kernel
theorem dX8_turnMembers_0 : decode cX8_turnMembers 0 = .ok (.iconst 0, 1) := by decide +kernel
theorem dX8_turnMembers_1 : decode cX8_turnMembers 1 = .ok (.istore_n 3, 1) := by decide +kernel
theorem dX8_turnMembers_2 : decode cX8_turnMembers 2 = .ok (.iconst 0, 1) := by decide +kernel
theorem dX8_turnMembers_3 : decode cX8_turnMembers 3 = .ok (.istore 4, 2) := by decide +kernel
theorem dX8_turnMembers_5 : decode cX8_turnMembers 5 = .ok (.iload 4, 2) := by decide +kernel
theorem dX8_turnMembers_7 : decode cX8_turnMembers 7 = .ok (.aload_n 0, 1) := by decide +kernel
theorem dX8_turnMembers_8 : decode cX8_turnMembers 8 = .ok (.getfield 7, 3) := by decide +kernel
theorem dX8_turnMembers_11 : decode cX8_turnMembers 11 = .ok (.bipush 6, 2) := by decide +kernel
theorem dX8_turnMembers_13 : decode cX8_turnMembers 13 = .ok (.iaload, 1) := by decide +kernel
theorem dX8_turnMembers_14 : decode cX8_turnMembers 14 = .ok (.if_icmp .ge 41, 3) := by decide +kernel
theorem dX8_turnMembers_17 : decode cX8_turnMembers 17 = .ok (.aload_n 0, 1) := by decide +kernel
theorem dX8_turnMembers_18 : decode cX8_turnMembers 18 = .ok (.iload 4, 2) := by decide +kernel
theorem dX8_turnMembers_20 : decode cX8_turnMembers 20 = .ok (.iload_n 1, 1) := by decide +kernel
theorem dX8_turnMembers_21 : decode cX8_turnMembers 21 = .ok (.invokevirtual 44, 3) := by decide +kernel
theorem dX8_turnMembers_24 : decode cX8_turnMembers 24 = .ok (.ifCond .eq 25, 3) := by decide +kernel
theorem dX8_turnMembers_27 : decode cX8_turnMembers 27 = .ok (.aload_n 0, 1) := by decide +kernel
theorem dX8_turnMembers_28 : decode cX8_turnMembers 28 = .ok (.iload 4, 2) := by decide +kernel
theorem dX8_turnMembers_30 : decode cX8_turnMembers 30 = .ok (.iconst 3, 1) := by decide +kernel
theorem dX8_turnMembers_31 : decode cX8_turnMembers 31 = .ok (.invokevirtual 40, 3) := by decide +kernel
theorem dX8_turnMembers_34 : decode cX8_turnMembers 34 = .ok (.iconst 4, 1) := by decide +kernel
theorem dX8_turnMembers_35 : decode cX8_turnMembers 35 = .ok (.if_icmp .ge 14, 3) := by decide +kernel
theorem dX8_turnMembers_38 : decode cX8_turnMembers 38 = .ok (.aload_n 0, 1) := by decide +kernel
theorem dX8_turnMembers_39 : decode cX8_turnMembers 39 = .ok (.iload 4, 2) := by decide +kernel
theorem dX8_turnMembers_41 : decode cX8_turnMembers 41 = .ok (.iconst 3, 1) := by decide +kernel
theorem dX8_turnMembers_42 : decode cX8_turnMembers 42 = .ok (.iload_n 2, 1) := by decide +kernel
theorem dX8_turnMembers_43 : decode cX8_turnMembers 43 = .ok (.invokevirtual 48, 3) := by decide +kernel
theorem dX8_turnMembers_46 : decode cX8_turnMembers 46 = .ok (.iinc 3 1, 3) := by decide +kernel
theorem dX8_turnMembers_49 : decode cX8_turnMembers 49 = .ok (.iinc 4 1, 3) := by decide +kernel
theorem dX8_turnMembers_52 : decode cX8_turnMembers 52 = .ok (.goto (-47), 3) := by decide +kernel
theorem dX8_turnMembers_55 : decode cX8_turnMembers 55 = .ok (.iload_n 3, 1) := by decide +kernel
theorem dX8_turnMembers_56 : decode cX8_turnMembers 56 = .ok (.ireturn, 1) := by decide +kernel
theorem dX8_queuedAt_0 : decode cX8_queuedAt 0 = .ok (.iload_n 1, 1) := by decide +kernel
theorem dX8_queuedAt_1 : decode cX8_queuedAt 1 = .ok (.istore_n 2, 1) := by decide +kernel
theorem dX8_queuedAt_2 : decode cX8_queuedAt 2 = .ok (.iconst 0, 1) := by decide +kernel
theorem dX8_queuedAt_3 : decode cX8_queuedAt 3 = .ok (.istore_n 3, 1) := by decide +kernel
theorem dX8_queuedAt_4 : decode cX8_queuedAt 4 = .ok (.iload_n 3, 1) := by decide +kernel
theorem dX8_queuedAt_5 : decode cX8_queuedAt 5 = .ok (.aload_n 0, 1) := by decide +kernel
theorem dX8_queuedAt_6 : decode cX8_queuedAt 6 = .ok (.getfield 7, 3) := by decide +kernel
theorem dX8_queuedAt_9 : decode cX8_queuedAt 9 = .ok (.bipush 7, 2) := by decide +kernel
theorem dX8_queuedAt_11 : decode cX8_queuedAt 11 = .ok (.iaload, 1) := by decide +kernel
theorem dX8_queuedAt_12 : decode cX8_queuedAt 12 = .ok (.if_icmp .ge 28, 3) := by decide +kernel
theorem dX8_queuedAt_15 : decode cX8_queuedAt 15 = .ok (.aload_n 0, 1) := by decide +kernel
theorem dX8_queuedAt_16 : decode cX8_queuedAt 16 = .ok (.iload_n 3, 1) := by decide +kernel
theorem dX8_queuedAt_17 : decode cX8_queuedAt 17 = .ok (.iconst 0, 1) := by decide +kernel
theorem dX8_queuedAt_18 : decode cX8_queuedAt 18 = .ok (.invokevirtual 52, 3) := by decide +kernel
theorem dX8_queuedAt_21 : decode cX8_queuedAt 21 = .ok (.iconst 2, 1) := by decide +kernel
theorem dX8_queuedAt_22 : decode cX8_queuedAt 22 = .ok (.if_icmp .ne 12, 3) := by decide +kernel
theorem dX8_queuedAt_25 : decode cX8_queuedAt 25 = .ok (.iload_n 2, 1) := by decide +kernel
theorem dX8_queuedAt_26 : decode cX8_queuedAt 26 = .ok (.ifCond .ne 5, 3) := by decide +kernel
theorem dX8_queuedAt_29 : decode cX8_queuedAt 29 = .ok (.iload_n 3, 1) := by decide +kernel
theorem dX8_queuedAt_30 : decode cX8_queuedAt 30 = .ok (.ireturn, 1) := by decide +kernel
theorem dX8_queuedAt_31 : decode cX8_queuedAt 31 = .ok (.iinc 2 (-1), 3) := by decide +kernel
theorem dX8_queuedAt_34 : decode cX8_queuedAt 34 = .ok (.iinc 3 1, 3) := by decide +kernel
theorem dX8_queuedAt_37 : decode cX8_queuedAt 37 = .ok (.goto (-33), 3) := by decide +kernel
theorem dX8_queuedAt_40 : decode cX8_queuedAt 40 = .ok (.bipush (-5), 2) := by decide +kernel
theorem dX8_queuedAt_42 : decode cX8_queuedAt 42 = .ok (.ireturn, 1) := by decide +kernel
theorem dX8_goOn_0 : decode cX8_goOn 0 = .ok (.aload_n 0, 1) := by decide +kernel
theorem dX8_goOn_1 : decode cX8_goOn 1 = .ok (.iconst 0, 1) := by decide +kernel
theorem dX8_goOn_2 : decode cX8_goOn 2 = .ok (.invokevirtual 55, 3) := by decide +kernel
theorem dX8_goOn_5 : decode cX8_goOn 5 = .ok (.istore_n 1, 1) := by decide +kernel
theorem dX8_goOn_6 : decode cX8_goOn 6 = .ok (.aload_n 0, 1) := by decide +kernel
theorem dX8_goOn_7 : decode cX8_goOn 7 = .ok (.getfield 7, 3) := by decide +kernel
theorem dX8_goOn_10 : decode cX8_goOn 10 = .ok (.bipush 9, 2) := by decide +kernel
theorem dX8_goOn_12 : decode cX8_goOn 12 = .ok (.iaload, 1) := by decide +kernel
theorem dX8_goOn_13 : decode cX8_goOn 13 = .ok (.bipush (-5), 2) := by decide +kernel
theorem dX8_goOn_15 : decode cX8_goOn 15 = .ok (.if_icmp .ne 9, 3) := by decide +kernel
theorem dX8_goOn_18 : decode cX8_goOn 18 = .ok (.iload_n 1, 1) := by decide +kernel
theorem dX8_goOn_19 : decode cX8_goOn 19 = .ok (.bipush (-5), 2) := by decide +kernel
theorem dX8_goOn_21 : decode cX8_goOn 21 = .ok (.if_icmp .ne 4, 3) := by decide +kernel
theorem dX8_goOn_24 : decode cX8_goOn 24 = .ok (.return_, 1) := by decide +kernel
theorem dX8_goOn_25 : decode cX8_goOn 25 = .ok (.aload_n 0, 1) := by decide +kernel
theorem dX8_goOn_26 : decode cX8_goOn 26 = .ok (.getfield 7, 3) := by decide +kernel
theorem dX8_goOn_29 : decode cX8_goOn 29 = .ok (.bipush 9, 2) := by decide +kernel
theorem dX8_goOn_31 : decode cX8_goOn 31 = .ok (.iload_n 1, 1) := by decide +kernel
theorem dX8_goOn_32 : decode cX8_goOn 32 = .ok (.iastore, 1) := by decide +kernel
theorem dX8_goOn_33 : decode cX8_goOn 33 = .ok (.aload_n 0, 1) := by decide +kernel
theorem dX8_goOn_34 : decode cX8_goOn 34 = .ok (.iload_n 1, 1) := by decide +kernel
theorem dX8_goOn_35 : decode cX8_goOn 35 = .ok (.iconst 0, 1) := by decide +kernel
theorem dX8_goOn_36 : decode cX8_goOn 36 = .ok (.iconst 3, 1) := by decide +kernel
theorem dX8_goOn_37 : decode cX8_goOn 37 = .ok (.invokevirtual 59, 3) := by decide +kernel
theorem dX8_goOn_40 : decode cX8_goOn 40 = .ok (.aload_n 0, 1) := by decide +kernel
theorem dX8_goOn_41 : decode cX8_goOn 41 = .ok (.iload_n 1, 1) := by decide +kernel
theorem dX8_goOn_42 : decode cX8_goOn 42 = .ok (.iconst 3, 1) := by decide +kernel
theorem dX8_goOn_43 : decode cX8_goOn 43 = .ok (.aload_n 0, 1) := by decide +kernel
theorem dX8_goOn_44 : decode cX8_goOn 44 = .ok (.getfield 7, 3) := by decide +kernel
theorem dX8_goOn_47 : decode cX8_goOn 47 = .ok (.iconst 4, 1) := by decide +kernel
theorem dX8_goOn_48 : decode cX8_goOn 48 = .ok (.iaload, 1) := by decide +kernel
theorem dX8_goOn_49 : decode cX8_goOn 49 = .ok (.aload_n 0, 1) := by decide +kernel
theorem dX8_goOn_50 : decode cX8_goOn 50 = .ok (.iload_n 1, 1) := by decide +kernel
theorem dX8_goOn_51 : decode cX8_goOn 51 = .ok (.invokevirtual 62, 3) := by decide +kernel
theorem dX8_goOn_54 : decode cX8_goOn 54 = .ok (.iconst 4, 1) := by decide +kernel
theorem dX8_goOn_55 : decode cX8_goOn 55 = .ok (.idiv, 1) := by decide +kernel
theorem dX8_goOn_56 : decode cX8_goOn 56 = .ok (.iadd, 1) := by decide +kernel
theorem dX8_goOn_57 : decode cX8_goOn 57 = .ok (.invokevirtual 59, 3) := by decide +kernel
theorem dX8_goOn_60 : decode cX8_goOn 60 = .ok (.aload_n 0, 1) := by decide +kernel
theorem dX8_goOn_61 : decode cX8_goOn 61 = .ok (.iload_n 1, 1) := by decide +kernel
theorem dX8_goOn_62 : decode cX8_goOn 62 = .ok (.iconst 3, 1) := by decide +kernel
theorem dX8_goOn_63 : decode cX8_goOn 63 = .ok (.invokevirtual 65, 3) := by decide +kernel
theorem dX8_goOn_66 : decode cX8_goOn 66 = .ok (.pop, 1) := by decide +kernel
theorem dX8_goOn_67 : decode cX8_goOn 67 = .ok (.return_, 1) := by decide +kernel
theorem dX8_close_0 : decode cX8_close 0 = .ok (.aload_n 0, 1) := by decide +kernel
theorem dX8_close_1 : decode cX8_close 1 = .ok (.getfield 7, 3) := by decide +kernel
theorem dX8_close_4 : decode cX8_close 4 = .ok (.bipush 8, 2) := by decide +kernel
theorem dX8_close_6 : decode cX8_close 6 = .ok (.iaload, 1) := by decide +kernel
theorem dX8_close_7 : decode cX8_close 7 = .ok (.istore_n 2, 1) := by decide +kernel
theorem dX8_close_8 : decode cX8_close 8 = .ok (.aload_n 0, 1) := by decide +kernel
theorem dX8_close_9 : decode cX8_close 9 = .ok (.getfield 7, 3) := by decide +kernel
theorem dX8_close_12 : decode cX8_close 12 = .ok (.bipush 8, 2) := by decide +kernel
theorem dX8_close_14 : decode cX8_close 14 = .ok (.bipush (-5), 2) := by decide +kernel
theorem dX8_close_16 : decode cX8_close 16 = .ok (.iastore, 1) := by decide +kernel
theorem dX8_close_17 : decode cX8_close 17 = .ok (.aload_n 0, 1) := by decide +kernel
theorem dX8_close_18 : decode cX8_close 18 = .ok (.iload_n 2, 1) := by decide +kernel
theorem dX8_close_19 : decode cX8_close 19 = .ok (.iconst 0, 1) := by decide +kernel
theorem dX8_close_20 : decode cX8_close 20 = .ok (.iconst 2, 1) := by decide +kernel
theorem dX8_close_21 : decode cX8_close 21 = .ok (.invokevirtual 59, 3) := by decide +kernel
theorem dX8_close_24 : decode cX8_close 24 = .ok (.aload_n 0, 1) := by decide +kernel
theorem dX8_close_25 : decode cX8_close 25 = .ok (.iload_n 2, 1) := by decide +kernel
theorem dX8_close_26 : decode cX8_close 26 = .ok (.iconst 2, 1) := by decide +kernel
theorem dX8_close_27 : decode cX8_close 27 = .ok (.iload_n 1, 1) := by decide +kernel
theorem dX8_close_28 : decode cX8_close 28 = .ok (.invokevirtual 59, 3) := by decide +kernel
theorem dX8_close_31 : decode cX8_close 31 = .ok (.aload_n 0, 1) := by decide +kernel
theorem dX8_close_32 : decode cX8_close 32 = .ok (.iload_n 2, 1) := by decide +kernel
theorem dX8_close_33 : decode cX8_close 33 = .ok (.iconst 2, 1) := by decide +kernel
theorem dX8_close_34 : decode cX8_close 34 = .ok (.invokevirtual 65, 3) := by decide +kernel
theorem dX8_close_37 : decode cX8_close 37 = .ok (.pop, 1) := by decide +kernel
theorem dX8_close_38 : decode cX8_close 38 = .ok (.aload_n 0, 1) := by decide +kernel
theorem dX8_close_39 : decode cX8_close 39 = .ok (.getfield 7, 3) := by decide +kernel
theorem dX8_close_42 : decode cX8_close 42 = .ok (.iconst 5, 1) := by decide +kernel
theorem dX8_close_43 : decode cX8_close 43 = .ok (.iaload, 1) := by decide +kernel
theorem dX8_close_44 : decode cX8_close 44 = .ok (.iconst 1, 1) := by decide +kernel
theorem dX8_close_45 : decode cX8_close 45 = .ok (.if_icmp .ne 72, 3) := by decide +kernel
theorem dX8_close_48 : decode cX8_close 48 = .ok (.aload_n 0, 1) := by decide +kernel
theorem dX8_close_49 : decode cX8_close 49 = .ok (.getfield 7, 3) := by decide +kernel
theorem dX8_close_52 : decode cX8_close 52 = .ok (.iconst 1, 1) := by decide +kernel
theorem dX8_close_53 : decode cX8_close 53 = .ok (.iaload, 1) := by decide +kernel
theorem dX8_close_54 : decode cX8_close 54 = .ok (.aload_n 0, 1) := by decide +kernel
theorem dX8_close_55 : decode cX8_close 55 = .ok (.iload_n 2, 1) := by decide +kernel
theorem dX8_close_56 : decode cX8_close 56 = .ok (.invokevirtual 68, 3) := by decide +kernel
theorem dX8_close_59 : decode cX8_close 59 = .ok (.iconst 1, 1) := by decide +kernel
theorem dX8_close_60 : decode cX8_close 60 = .ok (.if_icmp .le 7, 3) := by decide +kernel
theorem dX8_close_63 : decode cX8_close 63 = .ok (.iconst 1, 1) := by decide +kernel
theorem dX8_close_64 : decode cX8_close 64 = .ok (.goto 4, 3) := by decide +kernel
theorem dX8_close_67 : decode cX8_close 67 = .ok (.iconst (-1), 1) := by decide +kernel
theorem dX8_close_68 : decode cX8_close 68 = .ok (.iadd, 1) := by decide +kernel
theorem dX8_close_69 : decode cX8_close 69 = .ok (.istore_n 3, 1) := by decide +kernel
theorem dX8_close_70 : decode cX8_close 70 = .ok (.aload_n 0, 1) := by decide +kernel
theorem dX8_close_71 : decode cX8_close 71 = .ok (.iload_n 2, 1) := by decide +kernel
theorem dX8_close_72 : decode cX8_close 72 = .ok (.invokevirtual 68, 3) := by decide +kernel
theorem dX8_close_75 : decode cX8_close 75 = .ok (.iconst 1, 1) := by decide +kernel
theorem dX8_close_76 : decode cX8_close 76 = .ok (.if_icmp .le 12, 3) := by decide +kernel
theorem dX8_close_79 : decode cX8_close 79 = .ok (.aload_n 0, 1) := by decide +kernel
theorem dX8_close_80 : decode cX8_close 80 = .ok (.getfield 7, 3) := by decide +kernel
theorem dX8_close_83 : decode cX8_close 83 = .ok (.iconst 2, 1) := by decide +kernel
theorem dX8_close_84 : decode cX8_close 84 = .ok (.iaload, 1) := by decide +kernel
theorem dX8_close_85 : decode cX8_close 85 = .ok (.goto 4, 3) := by decide +kernel
theorem dX8_close_88 : decode cX8_close 88 = .ok (.iload_n 3, 1) := by decide +kernel
theorem dX8_close_89 : decode cX8_close 89 = .ok (.istore 4, 2) := by decide +kernel
theorem dX8_close_91 : decode cX8_close 91 = .ok (.aload_n 0, 1) := by decide +kernel
theorem dX8_close_92 : decode cX8_close 92 = .ok (.getfield 7, 3) := by decide +kernel
theorem dX8_close_95 : decode cX8_close 95 = .ok (.iconst 1, 1) := by decide +kernel
theorem dX8_close_96 : decode cX8_close 96 = .ok (.iload_n 3, 1) := by decide +kernel
theorem dX8_close_97 : decode cX8_close 97 = .ok (.iload 4, 2) := by decide +kernel
theorem dX8_close_99 : decode cX8_close 99 = .ok (.if_icmp .le 8, 3) := by decide +kernel
theorem dX8_close_102 : decode cX8_close 102 = .ok (.iload 4, 2) := by decide +kernel
theorem dX8_close_104 : decode cX8_close 104 = .ok (.goto 12, 3) := by decide +kernel
theorem dX8_close_107 : decode cX8_close 107 = .ok (.iload_n 3, 1) := by decide +kernel
theorem dX8_close_108 : decode cX8_close 108 = .ok (.ifCond .ge 7, 3) := by decide +kernel
theorem dX8_close_111 : decode cX8_close 111 = .ok (.iconst 0, 1) := by decide +kernel
theorem dX8_close_112 : decode cX8_close 112 = .ok (.goto 4, 3) := by decide +kernel
theorem dX8_close_115 : decode cX8_close 115 = .ok (.iload_n 3, 1) := by decide +kernel
theorem dX8_close_116 : decode cX8_close 116 = .ok (.iastore, 1) := by decide +kernel
theorem dX8_close_117 : decode cX8_close 117 = .ok (.aload_n 0, 1) := by decide +kernel
theorem dX8_close_118 : decode cX8_close 118 = .ok (.invokevirtual 71, 3) := by decide +kernel
theorem dX8_close_121 : decode cX8_close 121 = .ok (.return_, 1) := by decide +kernel
theorem dX8_isLate_0 : decode cX8_isLate 0 = .ok (.aload_n 0, 1) := by decide +kernel
theorem dX8_isLate_1 : decode cX8_isLate 1 = .ok (.getfield 7, 3) := by decide +kernel
theorem dX8_isLate_4 : decode cX8_isLate 4 = .ok (.bipush 8, 2) := by decide +kernel
theorem dX8_isLate_6 : decode cX8_isLate 6 = .ok (.iaload, 1) := by decide +kernel
theorem dX8_isLate_7 : decode cX8_isLate 7 = .ok (.bipush (-5), 2) := by decide +kernel
theorem dX8_isLate_9 : decode cX8_isLate 9 = .ok (.if_icmp .eq 28, 3) := by decide +kernel
theorem dX8_isLate_12 : decode cX8_isLate 12 = .ok (.aload_n 0, 1) := by decide +kernel
theorem dX8_isLate_13 : decode cX8_isLate 13 = .ok (.aload_n 0, 1) := by decide +kernel
theorem dX8_isLate_14 : decode cX8_isLate 14 = .ok (.getfield 7, 3) := by decide +kernel
theorem dX8_isLate_17 : decode cX8_isLate 17 = .ok (.bipush 8, 2) := by decide +kernel
theorem dX8_isLate_19 : decode cX8_isLate 19 = .ok (.iaload, 1) := by decide +kernel
theorem dX8_isLate_20 : decode cX8_isLate 20 = .ok (.iconst 1, 1) := by decide +kernel
theorem dX8_isLate_21 : decode cX8_isLate 21 = .ok (.invokevirtual 52, 3) := by decide +kernel
theorem dX8_isLate_24 : decode cX8_isLate 24 = .ok (.aload_n 0, 1) := by decide +kernel
theorem dX8_isLate_25 : decode cX8_isLate 25 = .ok (.getfield 7, 3) := by decide +kernel
theorem dX8_isLate_28 : decode cX8_isLate 28 = .ok (.iconst 0, 1) := by decide +kernel
theorem dX8_isLate_29 : decode cX8_isLate 29 = .ok (.iaload, 1) := by decide +kernel
theorem dX8_isLate_30 : decode cX8_isLate 30 = .ok (.if_icmp .gt 7, 3) := by decide +kernel
theorem dX8_isLate_33 : decode cX8_isLate 33 = .ok (.iconst 1, 1) := by decide +kernel
theorem dX8_isLate_34 : decode cX8_isLate 34 = .ok (.goto 4, 3) := by decide +kernel
theorem dX8_isLate_37 : decode cX8_isLate 37 = .ok (.iconst 0, 1) := by decide +kernel
theorem dX8_isLate_38 : decode cX8_isLate 38 = .ok (.ireturn, 1) := by decide +kernel
theorem dX8_begin_0 : decode cX8_begin 0 = .ok (.aload_n 0, 1) := by decide +kernel
theorem dX8_begin_1 : decode cX8_begin 1 = .ok (.getfield 7, 3) := by decide +kernel
theorem dX8_begin_4 : decode cX8_begin 4 = .ok (.bipush 7, 2) := by decide +kernel
theorem dX8_begin_6 : decode cX8_begin 6 = .ok (.iaload, 1) := by decide +kernel
theorem dX8_begin_7 : decode cX8_begin 7 = .ok (.istore_n 1, 1) := by decide +kernel
theorem dX8_begin_8 : decode cX8_begin 8 = .ok (.aload_n 0, 1) := by decide +kernel
theorem dX8_begin_9 : decode cX8_begin 9 = .ok (.getfield 7, 3) := by decide +kernel
theorem dX8_begin_12 : decode cX8_begin 12 = .ok (.bipush 7, 2) := by decide +kernel
theorem dX8_begin_14 : decode cX8_begin 14 = .ok (.dup2, 1) := by decide +kernel
theorem dX8_begin_15 : decode cX8_begin 15 = .ok (.iaload, 1) := by decide +kernel
theorem dX8_begin_16 : decode cX8_begin 16 = .ok (.iconst 1, 1) := by decide +kernel
theorem dX8_begin_17 : decode cX8_begin 17 = .ok (.iadd, 1) := by decide +kernel
theorem dX8_begin_18 : decode cX8_begin 18 = .ok (.iastore, 1) := by decide +kernel
theorem dX8_begin_19 : decode cX8_begin 19 = .ok (.aload_n 0, 1) := by decide +kernel
theorem dX8_begin_20 : decode cX8_begin 20 = .ok (.getfield 7, 3) := by decide +kernel
theorem dX8_begin_23 : decode cX8_begin 23 = .ok (.bipush 8, 2) := by decide +kernel
theorem dX8_begin_25 : decode cX8_begin 25 = .ok (.iload_n 1, 1) := by decide +kernel
theorem dX8_begin_26 : decode cX8_begin 26 = .ok (.iastore, 1) := by decide +kernel
theorem dX8_begin_27 : decode cX8_begin 27 = .ok (.aload_n 0, 1) := by decide +kernel
theorem dX8_begin_28 : decode cX8_begin 28 = .ok (.iload_n 1, 1) := by decide +kernel
theorem dX8_begin_29 : decode cX8_begin 29 = .ok (.iconst 0, 1) := by decide +kernel
theorem dX8_begin_30 : decode cX8_begin 30 = .ok (.iconst 1, 1) := by decide +kernel
theorem dX8_begin_31 : decode cX8_begin 31 = .ok (.invokevirtual 59, 3) := by decide +kernel
theorem dX8_begin_34 : decode cX8_begin 34 = .ok (.aload_n 0, 1) := by decide +kernel
theorem dX8_begin_35 : decode cX8_begin 35 = .ok (.iload_n 1, 1) := by decide +kernel
theorem dX8_begin_36 : decode cX8_begin 36 = .ok (.iconst 1, 1) := by decide +kernel
theorem dX8_begin_37 : decode cX8_begin 37 = .ok (.aload_n 0, 1) := by decide +kernel
theorem dX8_begin_38 : decode cX8_begin 38 = .ok (.getfield 7, 3) := by decide +kernel
theorem dX8_begin_41 : decode cX8_begin 41 = .ok (.iconst 0, 1) := by decide +kernel
theorem dX8_begin_42 : decode cX8_begin 42 = .ok (.iaload, 1) := by decide +kernel
theorem dX8_begin_43 : decode cX8_begin 43 = .ok (.aload_n 0, 1) := by decide +kernel
theorem dX8_begin_44 : decode cX8_begin 44 = .ok (.getfield 7, 3) := by decide +kernel
theorem dX8_begin_47 : decode cX8_begin 47 = .ok (.iconst 1, 1) := by decide +kernel
theorem dX8_begin_48 : decode cX8_begin 48 = .ok (.iaload, 1) := by decide +kernel
theorem dX8_begin_49 : decode cX8_begin 49 = .ok (.iadd, 1) := by decide +kernel
theorem dX8_begin_50 : decode cX8_begin 50 = .ok (.invokevirtual 59, 3) := by decide +kernel
theorem dX8_begin_53 : decode cX8_begin 53 = .ok (.iload_n 1, 1) := by decide +kernel
theorem dX8_begin_54 : decode cX8_begin 54 = .ok (.ireturn, 1) := by decide +kernel
theorem dX8_answerAll_0 : decode cX8_answerAll 0 = .ok (.iconst 0, 1) := by decide +kernel
theorem dX8_answerAll_1 : decode cX8_answerAll 1 = .ok (.istore_n 2, 1) := by decide +kernel
theorem dX8_answerAll_2 : decode cX8_answerAll 2 = .ok (.iconst 0, 1) := by decide +kernel
theorem dX8_answerAll_3 : decode cX8_answerAll 3 = .ok (.istore_n 3, 1) := by decide +kernel
theorem dX8_answerAll_4 : decode cX8_answerAll 4 = .ok (.iload_n 3, 1) := by decide +kernel
theorem dX8_answerAll_5 : decode cX8_answerAll 5 = .ok (.aload_n 0, 1) := by decide +kernel
theorem dX8_answerAll_6 : decode cX8_answerAll 6 = .ok (.getfield 7, 3) := by decide +kernel
theorem dX8_answerAll_9 : decode cX8_answerAll 9 = .ok (.bipush 6, 2) := by decide +kernel
theorem dX8_answerAll_11 : decode cX8_answerAll 11 = .ok (.iaload, 1) := by decide +kernel
theorem dX8_answerAll_12 : decode cX8_answerAll 12 = .ok (.if_icmp .ge 73, 3) := by decide +kernel
theorem dX8_answerAll_15 : decode cX8_answerAll 15 = .ok (.aload_n 0, 1) := by decide +kernel
theorem dX8_answerAll_16 : decode cX8_answerAll 16 = .ok (.iload_n 3, 1) := by decide +kernel
theorem dX8_answerAll_17 : decode cX8_answerAll 17 = .ok (.iload_n 1, 1) := by decide +kernel
theorem dX8_answerAll_18 : decode cX8_answerAll 18 = .ok (.invokevirtual 44, 3) := by decide +kernel
theorem dX8_answerAll_21 : decode cX8_answerAll 21 = .ok (.ifCond .eq 58, 3) := by decide +kernel
theorem dX8_answerAll_24 : decode cX8_answerAll 24 = .ok (.aload_n 0, 1) := by decide +kernel
theorem dX8_answerAll_25 : decode cX8_answerAll 25 = .ok (.iload_n 3, 1) := by decide +kernel
theorem dX8_answerAll_26 : decode cX8_answerAll 26 = .ok (.iconst 3, 1) := by decide +kernel
theorem dX8_answerAll_27 : decode cX8_answerAll 27 = .ok (.invokevirtual 40, 3) := by decide +kernel
theorem dX8_answerAll_30 : decode cX8_answerAll 30 = .ok (.iconst 3, 1) := by decide +kernel
theorem dX8_answerAll_31 : decode cX8_answerAll 31 = .ok (.if_icmp .ne 48, 3) := by decide +kernel
theorem dX8_answerAll_34 : decode cX8_answerAll 34 = .ok (.aload_n 0, 1) := by decide +kernel
theorem dX8_answerAll_35 : decode cX8_answerAll 35 = .ok (.iload_n 3, 1) := by decide +kernel
theorem dX8_answerAll_36 : decode cX8_answerAll 36 = .ok (.iconst 3, 1) := by decide +kernel
theorem dX8_answerAll_37 : decode cX8_answerAll 37 = .ok (.iconst 4, 1) := by decide +kernel
theorem dX8_answerAll_38 : decode cX8_answerAll 38 = .ok (.invokevirtual 48, 3) := by decide +kernel
theorem dX8_answerAll_41 : decode cX8_answerAll 41 = .ok (.aload_n 0, 1) := by decide +kernel
theorem dX8_answerAll_42 : decode cX8_answerAll 42 = .ok (.iload_n 3, 1) := by decide +kernel
theorem dX8_answerAll_43 : decode cX8_answerAll 43 = .ok (.iconst 5, 1) := by decide +kernel
theorem dX8_answerAll_44 : decode cX8_answerAll 44 = .ok (.aload_n 0, 1) := by decide +kernel
theorem dX8_answerAll_45 : decode cX8_answerAll 45 = .ok (.getfield 7, 3) := by decide +kernel
theorem dX8_answerAll_48 : decode cX8_answerAll 48 = .ok (.iconst 0, 1) := by decide +kernel
theorem dX8_answerAll_49 : decode cX8_answerAll 49 = .ok (.iaload, 1) := by decide +kernel
theorem dX8_answerAll_50 : decode cX8_answerAll 50 = .ok (.invokevirtual 48, 3) := by decide +kernel
theorem dX8_answerAll_53 : decode cX8_answerAll 53 = .ok (.aload_n 0, 1) := by decide +kernel
theorem dX8_answerAll_54 : decode cX8_answerAll 54 = .ok (.getfield 7, 3) := by decide +kernel
theorem dX8_answerAll_57 : decode cX8_answerAll 57 = .ok (.bipush 15, 2) := by decide +kernel
theorem dX8_answerAll_59 : decode cX8_answerAll 59 = .ok (.dup2, 1) := by decide +kernel
theorem dX8_answerAll_60 : decode cX8_answerAll 60 = .ok (.iaload, 1) := by decide +kernel
theorem dX8_answerAll_61 : decode cX8_answerAll 61 = .ok (.aload_n 0, 1) := by decide +kernel
theorem dX8_answerAll_62 : decode cX8_answerAll 62 = .ok (.getfield 7, 3) := by decide +kernel
theorem dX8_answerAll_65 : decode cX8_answerAll 65 = .ok (.iconst 0, 1) := by decide +kernel
theorem dX8_answerAll_66 : decode cX8_answerAll 66 = .ok (.iaload, 1) := by decide +kernel
theorem dX8_answerAll_67 : decode cX8_answerAll 67 = .ok (.aload_n 0, 1) := by decide +kernel
theorem dX8_answerAll_68 : decode cX8_answerAll 68 = .ok (.iload_n 3, 1) := by decide +kernel
theorem dX8_answerAll_69 : decode cX8_answerAll 69 = .ok (.iconst 4, 1) := by decide +kernel
theorem dX8_answerAll_70 : decode cX8_answerAll 70 = .ok (.invokevirtual 40, 3) := by decide +kernel
theorem dX8_answerAll_73 : decode cX8_answerAll 73 = .ok (.isub, 1) := by decide +kernel
theorem dX8_answerAll_74 : decode cX8_answerAll 74 = .ok (.iadd, 1) := by decide +kernel
theorem dX8_answerAll_75 : decode cX8_answerAll 75 = .ok (.iastore, 1) := by decide +kernel
theorem dX8_answerAll_76 : decode cX8_answerAll 76 = .ok (.iinc 2 1, 3) := by decide +kernel
theorem dX8_answerAll_79 : decode cX8_answerAll 79 = .ok (.iinc 3 1, 3) := by decide +kernel
theorem dX8_answerAll_82 : decode cX8_answerAll 82 = .ok (.goto (-78), 3) := by decide +kernel
theorem dX8_answerAll_85 : decode cX8_answerAll 85 = .ok (.aload_n 0, 1) := by decide +kernel
theorem dX8_answerAll_86 : decode cX8_answerAll 86 = .ok (.getfield 7, 3) := by decide +kernel
theorem dX8_answerAll_89 : decode cX8_answerAll 89 = .ok (.bipush 10, 2) := by decide +kernel
theorem dX8_answerAll_91 : decode cX8_answerAll 91 = .ok (.dup2, 1) := by decide +kernel
theorem dX8_answerAll_92 : decode cX8_answerAll 92 = .ok (.iaload, 1) := by decide +kernel
theorem dX8_answerAll_93 : decode cX8_answerAll 93 = .ok (.iload_n 2, 1) := by decide +kernel
theorem dX8_answerAll_94 : decode cX8_answerAll 94 = .ok (.iadd, 1) := by decide +kernel
theorem dX8_answerAll_95 : decode cX8_answerAll 95 = .ok (.iastore, 1) := by decide +kernel
theorem dX8_answerAll_96 : decode cX8_answerAll 96 = .ok (.iload_n 2, 1) := by decide +kernel
theorem dX8_answerAll_97 : decode cX8_answerAll 97 = .ok (.ireturn, 1) := by decide +kernel
theorem dX8_tickOnce_0 : decode cX8_tickOnce 0 = .ok (.aload_n 0, 1) := by decide +kernel
theorem dX8_tickOnce_1 : decode cX8_tickOnce 1 = .ok (.getfield 7, 3) := by decide +kernel
theorem dX8_tickOnce_4 : decode cX8_tickOnce 4 = .ok (.iconst 0, 1) := by decide +kernel
theorem dX8_tickOnce_5 : decode cX8_tickOnce 5 = .ok (.dup2, 1) := by decide +kernel
theorem dX8_tickOnce_6 : decode cX8_tickOnce 6 = .ok (.iaload, 1) := by decide +kernel
theorem dX8_tickOnce_7 : decode cX8_tickOnce 7 = .ok (.iconst 1, 1) := by decide +kernel
theorem dX8_tickOnce_8 : decode cX8_tickOnce 8 = .ok (.iadd, 1) := by decide +kernel
theorem dX8_tickOnce_9 : decode cX8_tickOnce 9 = .ok (.iastore, 1) := by decide +kernel
theorem dX8_tickOnce_10 : decode cX8_tickOnce 10 = .ok (.iconst 0, 1) := by decide +kernel
theorem dX8_tickOnce_11 : decode cX8_tickOnce 11 = .ok (.istore_n 1, 1) := by decide +kernel
theorem dX8_tickOnce_12 : decode cX8_tickOnce 12 = .ok (.aload_n 0, 1) := by decide +kernel
theorem dX8_tickOnce_13 : decode cX8_tickOnce 13 = .ok (.getfield 7, 3) := by decide +kernel
theorem dX8_tickOnce_16 : decode cX8_tickOnce 16 = .ok (.bipush 9, 2) := by decide +kernel
theorem dX8_tickOnce_18 : decode cX8_tickOnce 18 = .ok (.iaload, 1) := by decide +kernel
theorem dX8_tickOnce_19 : decode cX8_tickOnce 19 = .ok (.istore_n 2, 1) := by decide +kernel
theorem dX8_tickOnce_20 : decode cX8_tickOnce 20 = .ok (.iload_n 2, 1) := by decide +kernel
theorem dX8_tickOnce_21 : decode cX8_tickOnce 21 = .ok (.bipush (-5), 2) := by decide +kernel
theorem dX8_tickOnce_23 : decode cX8_tickOnce 23 = .ok (.if_icmp .eq 17, 3) := by decide +kernel
theorem dX8_tickOnce_26 : decode cX8_tickOnce 26 = .ok (.aload_n 0, 1) := by decide +kernel
theorem dX8_tickOnce_27 : decode cX8_tickOnce 27 = .ok (.iload_n 2, 1) := by decide +kernel
theorem dX8_tickOnce_28 : decode cX8_tickOnce 28 = .ok (.iconst 3, 1) := by decide +kernel
theorem dX8_tickOnce_29 : decode cX8_tickOnce 29 = .ok (.aload_n 0, 1) := by decide +kernel
theorem dX8_tickOnce_30 : decode cX8_tickOnce 30 = .ok (.iload_n 2, 1) := by decide +kernel
theorem dX8_tickOnce_31 : decode cX8_tickOnce 31 = .ok (.iconst 3, 1) := by decide +kernel
theorem dX8_tickOnce_32 : decode cX8_tickOnce 32 = .ok (.invokevirtual 52, 3) := by decide +kernel
theorem dX8_tickOnce_35 : decode cX8_tickOnce 35 = .ok (.iconst 1, 1) := by decide +kernel
theorem dX8_tickOnce_36 : decode cX8_tickOnce 36 = .ok (.isub, 1) := by decide +kernel
theorem dX8_tickOnce_37 : decode cX8_tickOnce 37 = .ok (.invokevirtual 59, 3) := by decide +kernel
theorem dX8_tickOnce_40 : decode cX8_tickOnce 40 = .ok (.iload_n 2, 1) := by decide +kernel
theorem dX8_tickOnce_41 : decode cX8_tickOnce 41 = .ok (.bipush (-5), 2) := by decide +kernel
theorem dX8_tickOnce_43 : decode cX8_tickOnce 43 = .ok (.if_icmp .eq 60, 3) := by decide +kernel
theorem dX8_tickOnce_46 : decode cX8_tickOnce 46 = .ok (.aload_n 0, 1) := by decide +kernel
theorem dX8_tickOnce_47 : decode cX8_tickOnce 47 = .ok (.iload_n 2, 1) := by decide +kernel
theorem dX8_tickOnce_48 : decode cX8_tickOnce 48 = .ok (.iconst 3, 1) := by decide +kernel
theorem dX8_tickOnce_49 : decode cX8_tickOnce 49 = .ok (.invokevirtual 52, 3) := by decide +kernel
theorem dX8_tickOnce_52 : decode cX8_tickOnce 52 = .ok (.ifCond .ne 51, 3) := by decide +kernel
theorem dX8_tickOnce_55 : decode cX8_tickOnce 55 = .ok (.aload_n 0, 1) := by decide +kernel
theorem dX8_tickOnce_56 : decode cX8_tickOnce 56 = .ok (.iload_n 2, 1) := by decide +kernel
theorem dX8_tickOnce_57 : decode cX8_tickOnce 57 = .ok (.iconst 0, 1) := by decide +kernel
theorem dX8_tickOnce_58 : decode cX8_tickOnce 58 = .ok (.iconst 4, 1) := by decide +kernel
theorem dX8_tickOnce_59 : decode cX8_tickOnce 59 = .ok (.invokevirtual 59, 3) := by decide +kernel
theorem dX8_tickOnce_62 : decode cX8_tickOnce 62 = .ok (.aload_n 0, 1) := by decide +kernel
theorem dX8_tickOnce_63 : decode cX8_tickOnce 63 = .ok (.getfield 7, 3) := by decide +kernel
theorem dX8_tickOnce_66 : decode cX8_tickOnce 66 = .ok (.bipush 9, 2) := by decide +kernel
theorem dX8_tickOnce_68 : decode cX8_tickOnce 68 = .ok (.bipush (-5), 2) := by decide +kernel
theorem dX8_tickOnce_70 : decode cX8_tickOnce 70 = .ok (.iastore, 1) := by decide +kernel
theorem dX8_tickOnce_71 : decode cX8_tickOnce 71 = .ok (.aload_n 0, 1) := by decide +kernel
theorem dX8_tickOnce_72 : decode cX8_tickOnce 72 = .ok (.getfield 7, 3) := by decide +kernel
theorem dX8_tickOnce_75 : decode cX8_tickOnce 75 = .ok (.bipush 13, 2) := by decide +kernel
theorem dX8_tickOnce_77 : decode cX8_tickOnce 77 = .ok (.dup2, 1) := by decide +kernel
theorem dX8_tickOnce_78 : decode cX8_tickOnce 78 = .ok (.iaload, 1) := by decide +kernel
theorem dX8_tickOnce_79 : decode cX8_tickOnce 79 = .ok (.iconst 1, 1) := by decide +kernel
theorem dX8_tickOnce_80 : decode cX8_tickOnce 80 = .ok (.iadd, 1) := by decide +kernel
theorem dX8_tickOnce_81 : decode cX8_tickOnce 81 = .ok (.iastore, 1) := by decide +kernel
theorem dX8_tickOnce_82 : decode cX8_tickOnce 82 = .ok (.aload_n 0, 1) := by decide +kernel
theorem dX8_tickOnce_83 : decode cX8_tickOnce 83 = .ok (.getfield 7, 3) := by decide +kernel
theorem dX8_tickOnce_86 : decode cX8_tickOnce 86 = .ok (.bipush 14, 2) := by decide +kernel
theorem dX8_tickOnce_88 : decode cX8_tickOnce 88 = .ok (.dup2, 1) := by decide +kernel
theorem dX8_tickOnce_89 : decode cX8_tickOnce 89 = .ok (.iaload, 1) := by decide +kernel
theorem dX8_tickOnce_90 : decode cX8_tickOnce 90 = .ok (.aload_n 0, 1) := by decide +kernel
theorem dX8_tickOnce_91 : decode cX8_tickOnce 91 = .ok (.iload_n 2, 1) := by decide +kernel
theorem dX8_tickOnce_92 : decode cX8_tickOnce 92 = .ok (.invokevirtual 62, 3) := by decide +kernel
theorem dX8_tickOnce_95 : decode cX8_tickOnce 95 = .ok (.iadd, 1) := by decide +kernel
theorem dX8_tickOnce_96 : decode cX8_tickOnce 96 = .ok (.iastore, 1) := by decide +kernel
theorem dX8_tickOnce_97 : decode cX8_tickOnce 97 = .ok (.aload_n 0, 1) := by decide +kernel
theorem dX8_tickOnce_98 : decode cX8_tickOnce 98 = .ok (.iload_n 2, 1) := by decide +kernel
theorem dX8_tickOnce_99 : decode cX8_tickOnce 99 = .ok (.invokevirtual 74, 3) := by decide +kernel
theorem dX8_tickOnce_102 : decode cX8_tickOnce 102 = .ok (.istore_n 1, 1) := by decide +kernel
theorem dX8_tickOnce_103 : decode cX8_tickOnce 103 = .ok (.aload_n 0, 1) := by decide +kernel
theorem dX8_tickOnce_104 : decode cX8_tickOnce 104 = .ok (.invokevirtual 77, 3) := by decide +kernel
theorem dX8_tickOnce_107 : decode cX8_tickOnce 107 = .ok (.ifCond .eq 8, 3) := by decide +kernel
theorem dX8_tickOnce_110 : decode cX8_tickOnce 110 = .ok (.aload_n 0, 1) := by decide +kernel
theorem dX8_tickOnce_111 : decode cX8_tickOnce 111 = .ok (.iconst 3, 1) := by decide +kernel
theorem dX8_tickOnce_112 : decode cX8_tickOnce 112 = .ok (.invokevirtual 81, 3) := by decide +kernel
theorem dX8_tickOnce_115 : decode cX8_tickOnce 115 = .ok (.aload_n 0, 1) := by decide +kernel
theorem dX8_tickOnce_116 : decode cX8_tickOnce 116 = .ok (.invokevirtual 71, 3) := by decide +kernel
theorem dX8_tickOnce_119 : decode cX8_tickOnce 119 = .ok (.iload_n 1, 1) := by decide +kernel
theorem dX8_tickOnce_120 : decode cX8_tickOnce 120 = .ok (.ireturn, 1) := by decide +kernel
theorem dX8_ticks_0 : decode cX8_ticks 0 = .ok (.iconst 0, 1) := by decide +kernel
theorem dX8_ticks_1 : decode cX8_ticks 1 = .ok (.istore_n 2, 1) := by decide +kernel
theorem dX8_ticks_2 : decode cX8_ticks 2 = .ok (.iconst 0, 1) := by decide +kernel
theorem dX8_ticks_3 : decode cX8_ticks 3 = .ok (.istore_n 3, 1) := by decide +kernel
theorem dX8_ticks_4 : decode cX8_ticks 4 = .ok (.iload_n 3, 1) := by decide +kernel
theorem dX8_ticks_5 : decode cX8_ticks 5 = .ok (.iload_n 1, 1) := by decide +kernel
theorem dX8_ticks_6 : decode cX8_ticks 6 = .ok (.if_icmp .ge 16, 3) := by decide +kernel
theorem dX8_ticks_9 : decode cX8_ticks 9 = .ok (.iload_n 2, 1) := by decide +kernel
theorem dX8_ticks_10 : decode cX8_ticks 10 = .ok (.aload_n 0, 1) := by decide +kernel
theorem dX8_ticks_11 : decode cX8_ticks 11 = .ok (.invokevirtual 85, 3) := by decide +kernel
theorem dX8_ticks_14 : decode cX8_ticks 14 = .ok (.iadd, 1) := by decide +kernel
theorem dX8_ticks_15 : decode cX8_ticks 15 = .ok (.istore_n 2, 1) := by decide +kernel
theorem dX8_ticks_16 : decode cX8_ticks 16 = .ok (.iinc 3 1, 3) := by decide +kernel
theorem dX8_ticks_19 : decode cX8_ticks 19 = .ok (.goto (-15), 3) := by decide +kernel
theorem dX8_ticks_22 : decode cX8_ticks 22 = .ok (.iload_n 2, 1) := by decide +kernel
theorem dX8_ticks_23 : decode cX8_ticks 23 = .ok (.ireturn, 1) := by decide +kernel
theorem dX8_openOf_0 : decode cX8_openOf 0 = .ok (.iconst 0, 1) := by decide +kernel
theorem dX8_openOf_1 : decode cX8_openOf 1 = .ok (.istore_n 2, 1) := by decide +kernel
theorem dX8_openOf_2 : decode cX8_openOf 2 = .ok (.iload_n 2, 1) := by decide +kernel
theorem dX8_openOf_3 : decode cX8_openOf 3 = .ok (.aload_n 0, 1) := by decide +kernel
theorem dX8_openOf_4 : decode cX8_openOf 4 = .ok (.getfield 7, 3) := by decide +kernel
theorem dX8_openOf_7 : decode cX8_openOf 7 = .ok (.bipush 6, 2) := by decide +kernel
theorem dX8_openOf_9 : decode cX8_openOf 9 = .ok (.iaload, 1) := by decide +kernel
theorem dX8_openOf_10 : decode cX8_openOf 10 = .ok (.if_icmp .ge 31, 3) := by decide +kernel
theorem dX8_openOf_13 : decode cX8_openOf 13 = .ok (.aload_n 0, 1) := by decide +kernel
theorem dX8_openOf_14 : decode cX8_openOf 14 = .ok (.iload_n 2, 1) := by decide +kernel
theorem dX8_openOf_15 : decode cX8_openOf 15 = .ok (.iconst 0, 1) := by decide +kernel
theorem dX8_openOf_16 : decode cX8_openOf 16 = .ok (.invokevirtual 40, 3) := by decide +kernel
theorem dX8_openOf_19 : decode cX8_openOf 19 = .ok (.iload_n 1, 1) := by decide +kernel
theorem dX8_openOf_20 : decode cX8_openOf 20 = .ok (.if_icmp .ne 15, 3) := by decide +kernel
theorem dX8_openOf_23 : decode cX8_openOf 23 = .ok (.aload_n 0, 1) := by decide +kernel
theorem dX8_openOf_24 : decode cX8_openOf 24 = .ok (.iload_n 2, 1) := by decide +kernel
theorem dX8_openOf_25 : decode cX8_openOf 25 = .ok (.iconst 3, 1) := by decide +kernel
theorem dX8_openOf_26 : decode cX8_openOf 26 = .ok (.invokevirtual 40, 3) := by decide +kernel
theorem dX8_openOf_29 : decode cX8_openOf 29 = .ok (.iconst 4, 1) := by decide +kernel
theorem dX8_openOf_30 : decode cX8_openOf 30 = .ok (.if_icmp .ge 5, 3) := by decide +kernel
theorem dX8_openOf_33 : decode cX8_openOf 33 = .ok (.iload_n 2, 1) := by decide +kernel
theorem dX8_openOf_34 : decode cX8_openOf 34 = .ok (.ireturn, 1) := by decide +kernel
theorem dX8_openOf_35 : decode cX8_openOf 35 = .ok (.iinc 2 1, 3) := by decide +kernel
theorem dX8_openOf_38 : decode cX8_openOf 38 = .ok (.goto (-36), 3) := by decide +kernel
theorem dX8_openOf_41 : decode cX8_openOf 41 = .ok (.bipush (-5), 2) := by decide +kernel
theorem dX8_openOf_43 : decode cX8_openOf 43 = .ok (.ireturn, 1) := by decide +kernel
theorem dX8_takeOut_0 : decode cX8_takeOut 0 = .ok (.aload_n 0, 1) := by decide +kernel
theorem dX8_takeOut_1 : decode cX8_takeOut 1 = .ok (.getfield 7, 3) := by decide +kernel
theorem dX8_takeOut_4 : decode cX8_takeOut 4 = .ok (.bipush 8, 2) := by decide +kernel
theorem dX8_takeOut_6 : decode cX8_takeOut 6 = .ok (.iaload, 1) := by decide +kernel
theorem dX8_takeOut_7 : decode cX8_takeOut 7 = .ok (.istore_n 3, 1) := by decide +kernel
theorem dX8_takeOut_8 : decode cX8_takeOut 8 = .ok (.aload_n 0, 1) := by decide +kernel
theorem dX8_takeOut_9 : decode cX8_takeOut 9 = .ok (.iload_n 3, 1) := by decide +kernel
theorem dX8_takeOut_10 : decode cX8_takeOut 10 = .ok (.iconst 0, 1) := by decide +kernel
theorem dX8_takeOut_11 : decode cX8_takeOut 11 = .ok (.invokevirtual 89, 3) := by decide +kernel
theorem dX8_takeOut_14 : decode cX8_takeOut 14 = .ok (.iload_n 1, 1) := by decide +kernel
theorem dX8_takeOut_15 : decode cX8_takeOut 15 = .ok (.if_icmp .ne 7, 3) := by decide +kernel
theorem dX8_takeOut_18 : decode cX8_takeOut 18 = .ok (.iconst 1, 1) := by decide +kernel
theorem dX8_takeOut_19 : decode cX8_takeOut 19 = .ok (.goto 4, 3) := by decide +kernel
theorem dX8_takeOut_22 : decode cX8_takeOut 22 = .ok (.iconst 0, 1) := by decide +kernel
theorem dX8_takeOut_23 : decode cX8_takeOut 23 = .ok (.istore 4, 2) := by decide +kernel
theorem dX8_takeOut_25 : decode cX8_takeOut 25 = .ok (.aload_n 0, 1) := by decide +kernel
theorem dX8_takeOut_26 : decode cX8_takeOut 26 = .ok (.iload_n 1, 1) := by decide +kernel
theorem dX8_takeOut_27 : decode cX8_takeOut 27 = .ok (.iconst 3, 1) := by decide +kernel
theorem dX8_takeOut_28 : decode cX8_takeOut 28 = .ok (.iload_n 2, 1) := by decide +kernel
theorem dX8_takeOut_29 : decode cX8_takeOut 29 = .ok (.invokevirtual 48, 3) := by decide +kernel
theorem dX8_takeOut_32 : decode cX8_takeOut 32 = .ok (.aload_n 0, 1) := by decide +kernel
theorem dX8_takeOut_33 : decode cX8_takeOut 33 = .ok (.iload_n 1, 1) := by decide +kernel
theorem dX8_takeOut_34 : decode cX8_takeOut 34 = .ok (.bipush 7, 2) := by decide +kernel
theorem dX8_takeOut_36 : decode cX8_takeOut 36 = .ok (.iconst 0, 1) := by decide +kernel
theorem dX8_takeOut_37 : decode cX8_takeOut 37 = .ok (.invokevirtual 48, 3) := by decide +kernel
theorem dX8_takeOut_40 : decode cX8_takeOut 40 = .ok (.aload_n 0, 1) := by decide +kernel
theorem dX8_takeOut_41 : decode cX8_takeOut 41 = .ok (.iload_n 3, 1) := by decide +kernel
theorem dX8_takeOut_42 : decode cX8_takeOut 42 = .ok (.invokevirtual 68, 3) := by decide +kernel
theorem dX8_takeOut_45 : decode cX8_takeOut 45 = .ok (.ifCond .ne 22, 3) := by decide +kernel
theorem dX8_takeOut_48 : decode cX8_takeOut 48 = .ok (.aload_n 0, 1) := by decide +kernel
theorem dX8_takeOut_49 : decode cX8_takeOut 49 = .ok (.iload_n 3, 1) := by decide +kernel
theorem dX8_takeOut_50 : decode cX8_takeOut 50 = .ok (.iconst 0, 1) := by decide +kernel
theorem dX8_takeOut_51 : decode cX8_takeOut 51 = .ok (.iconst 5, 1) := by decide +kernel
theorem dX8_takeOut_52 : decode cX8_takeOut 52 = .ok (.invokevirtual 59, 3) := by decide +kernel
theorem dX8_takeOut_55 : decode cX8_takeOut 55 = .ok (.aload_n 0, 1) := by decide +kernel
theorem dX8_takeOut_56 : decode cX8_takeOut 56 = .ok (.getfield 7, 3) := by decide +kernel
theorem dX8_takeOut_59 : decode cX8_takeOut 59 = .ok (.bipush 8, 2) := by decide +kernel
theorem dX8_takeOut_61 : decode cX8_takeOut 61 = .ok (.bipush (-5), 2) := by decide +kernel
theorem dX8_takeOut_63 : decode cX8_takeOut 63 = .ok (.iastore, 1) := by decide +kernel
theorem dX8_takeOut_64 : decode cX8_takeOut 64 = .ok (.goto 27, 3) := by decide +kernel
theorem dX8_takeOut_67 : decode cX8_takeOut 67 = .ok (.iload 4, 2) := by decide +kernel
theorem dX8_takeOut_69 : decode cX8_takeOut 69 = .ok (.ifCond .eq 22, 3) := by decide +kernel
theorem dX8_takeOut_72 : decode cX8_takeOut 72 = .ok (.aload_n 0, 1) := by decide +kernel
theorem dX8_takeOut_73 : decode cX8_takeOut 73 = .ok (.iload_n 3, 1) := by decide +kernel
theorem dX8_takeOut_74 : decode cX8_takeOut 74 = .ok (.iconst 1, 1) := by decide +kernel
theorem dX8_takeOut_75 : decode cX8_takeOut 75 = .ok (.aload_n 0, 1) := by decide +kernel
theorem dX8_takeOut_76 : decode cX8_takeOut 76 = .ok (.getfield 7, 3) := by decide +kernel
theorem dX8_takeOut_79 : decode cX8_takeOut 79 = .ok (.iconst 0, 1) := by decide +kernel
theorem dX8_takeOut_80 : decode cX8_takeOut 80 = .ok (.iaload, 1) := by decide +kernel
theorem dX8_takeOut_81 : decode cX8_takeOut 81 = .ok (.aload_n 0, 1) := by decide +kernel
theorem dX8_takeOut_82 : decode cX8_takeOut 82 = .ok (.getfield 7, 3) := by decide +kernel
theorem dX8_takeOut_85 : decode cX8_takeOut 85 = .ok (.iconst 1, 1) := by decide +kernel
theorem dX8_takeOut_86 : decode cX8_takeOut 86 = .ok (.iaload, 1) := by decide +kernel
theorem dX8_takeOut_87 : decode cX8_takeOut 87 = .ok (.iadd, 1) := by decide +kernel
theorem dX8_takeOut_88 : decode cX8_takeOut 88 = .ok (.invokevirtual 59, 3) := by decide +kernel
theorem dX8_takeOut_91 : decode cX8_takeOut 91 = .ok (.return_, 1) := by decide +kernel
theorem dX8_whyNotSubmitted_0 : decode cX8_whyNotSubmitted 0 = .ok (.iload_n 1, 1) := by decide +kernel
theorem dX8_whyNotSubmitted_1 : decode cX8_whyNotSubmitted 1 = .ok (.invokestatic 92, 3) := by decide +kernel
theorem dX8_whyNotSubmitted_4 : decode cX8_whyNotSubmitted 4 = .ok (.ifCond .ne 5, 3) := by decide +kernel
theorem dX8_whyNotSubmitted_7 : decode cX8_whyNotSubmitted 7 = .ok (.iconst (-1), 1) := by decide +kernel
theorem dX8_whyNotSubmitted_8 : decode cX8_whyNotSubmitted 8 = .ok (.ireturn, 1) := by decide +kernel
theorem dX8_whyNotSubmitted_9 : decode cX8_whyNotSubmitted 9 = .ok (.iload_n 2, 1) := by decide +kernel
theorem dX8_whyNotSubmitted_10 : decode cX8_whyNotSubmitted 10 = .ok (.iconst 1, 1) := by decide +kernel
theorem dX8_whyNotSubmitted_11 : decode cX8_whyNotSubmitted 11 = .ok (.bipush 8, 2) := by decide +kernel
theorem dX8_whyNotSubmitted_13 : decode cX8_whyNotSubmitted 13 = .ok (.invokestatic 25, 3) := by decide +kernel
theorem dX8_whyNotSubmitted_16 : decode cX8_whyNotSubmitted 16 = .ok (.ifCond .ne 6, 3) := by decide +kernel
theorem dX8_whyNotSubmitted_19 : decode cX8_whyNotSubmitted 19 = .ok (.bipush (-2), 2) := by decide +kernel
theorem dX8_whyNotSubmitted_21 : decode cX8_whyNotSubmitted 21 = .ok (.ireturn, 1) := by decide +kernel
theorem dX8_whyNotSubmitted_22 : decode cX8_whyNotSubmitted 22 = .ok (.aload_n 0, 1) := by decide +kernel
theorem dX8_whyNotSubmitted_23 : decode cX8_whyNotSubmitted 23 = .ok (.iload_n 1, 1) := by decide +kernel
theorem dX8_whyNotSubmitted_24 : decode cX8_whyNotSubmitted 24 = .ok (.invokevirtual 96, 3) := by decide +kernel
theorem dX8_whyNotSubmitted_27 : decode cX8_whyNotSubmitted 27 = .ok (.bipush (-5), 2) := by decide +kernel
theorem dX8_whyNotSubmitted_29 : decode cX8_whyNotSubmitted 29 = .ok (.if_icmp .eq 8, 3) := by decide +kernel
theorem dX8_whyNotSubmitted_32 : decode cX8_whyNotSubmitted 32 = .ok (.bipush (-4), 2) := by decide +kernel
theorem dX8_whyNotSubmitted_34 : decode cX8_whyNotSubmitted 34 = .ok (.goto 22, 3) := by decide +kernel
theorem dX8_whyNotSubmitted_37 : decode cX8_whyNotSubmitted 37 = .ok (.aload_n 0, 1) := by decide +kernel
theorem dX8_whyNotSubmitted_38 : decode cX8_whyNotSubmitted 38 = .ok (.getfield 7, 3) := by decide +kernel
theorem dX8_whyNotSubmitted_41 : decode cX8_whyNotSubmitted 41 = .ok (.bipush 6, 2) := by decide +kernel
theorem dX8_whyNotSubmitted_43 : decode cX8_whyNotSubmitted 43 = .ok (.iaload, 1) := by decide +kernel
theorem dX8_whyNotSubmitted_44 : decode cX8_whyNotSubmitted 44 = .ok (.sipush 150, 3) := by decide +kernel
theorem dX8_whyNotSubmitted_47 : decode cX8_whyNotSubmitted 47 = .ok (.if_icmp .ne 8, 3) := by decide +kernel
theorem dX8_whyNotSubmitted_50 : decode cX8_whyNotSubmitted 50 = .ok (.bipush (-3), 2) := by decide +kernel
theorem dX8_whyNotSubmitted_52 : decode cX8_whyNotSubmitted 52 = .ok (.goto 4, 3) := by decide +kernel
theorem dX8_whyNotSubmitted_55 : decode cX8_whyNotSubmitted 55 = .ok (.iconst 0, 1) := by decide +kernel
theorem dX8_whyNotSubmitted_56 : decode cX8_whyNotSubmitted 56 = .ok (.ireturn, 1) := by decide +kernel
theorem dX8_doesSubmit_0 : decode cX8_doesSubmit 0 = .ok (.aload_n 0, 1) := by decide +kernel
theorem dX8_doesSubmit_1 : decode cX8_doesSubmit 1 = .ok (.getfield 7, 3) := by decide +kernel
theorem dX8_doesSubmit_4 : decode cX8_doesSubmit 4 = .ok (.bipush 8, 2) := by decide +kernel
theorem dX8_doesSubmit_6 : decode cX8_doesSubmit 6 = .ok (.iaload, 1) := by decide +kernel
theorem dX8_doesSubmit_7 : decode cX8_doesSubmit 7 = .ok (.bipush (-5), 2) := by decide +kernel
theorem dX8_doesSubmit_9 : decode cX8_doesSubmit 9 = .ok (.if_icmp .ne 10, 3) := by decide +kernel
theorem dX8_doesSubmit_12 : decode cX8_doesSubmit 12 = .ok (.aload_n 0, 1) := by decide +kernel
theorem dX8_doesSubmit_13 : decode cX8_doesSubmit 13 = .ok (.invokevirtual 99, 3) := by decide +kernel
theorem dX8_doesSubmit_16 : decode cX8_doesSubmit 16 = .ok (.goto 10, 3) := by decide +kernel
theorem dX8_doesSubmit_19 : decode cX8_doesSubmit 19 = .ok (.aload_n 0, 1) := by decide +kernel
theorem dX8_doesSubmit_20 : decode cX8_doesSubmit 20 = .ok (.getfield 7, 3) := by decide +kernel
theorem dX8_doesSubmit_23 : decode cX8_doesSubmit 23 = .ok (.bipush 8, 2) := by decide +kernel
theorem dX8_doesSubmit_25 : decode cX8_doesSubmit 25 = .ok (.iaload, 1) := by decide +kernel
theorem dX8_doesSubmit_26 : decode cX8_doesSubmit 26 = .ok (.istore 4, 2) := by decide +kernel
theorem dX8_doesSubmit_28 : decode cX8_doesSubmit 28 = .ok (.aload_n 0, 1) := by decide +kernel
theorem dX8_doesSubmit_29 : decode cX8_doesSubmit 29 = .ok (.getfield 7, 3) := by decide +kernel
theorem dX8_doesSubmit_32 : decode cX8_doesSubmit 32 = .ok (.bipush 6, 2) := by decide +kernel
theorem dX8_doesSubmit_34 : decode cX8_doesSubmit 34 = .ok (.iaload, 1) := by decide +kernel
theorem dX8_doesSubmit_35 : decode cX8_doesSubmit 35 = .ok (.istore 5, 2) := by decide +kernel
theorem dX8_doesSubmit_37 : decode cX8_doesSubmit 37 = .ok (.aload_n 0, 1) := by decide +kernel
theorem dX8_doesSubmit_38 : decode cX8_doesSubmit 38 = .ok (.getfield 7, 3) := by decide +kernel
theorem dX8_doesSubmit_41 : decode cX8_doesSubmit 41 = .ok (.bipush 6, 2) := by decide +kernel
theorem dX8_doesSubmit_43 : decode cX8_doesSubmit 43 = .ok (.dup2, 1) := by decide +kernel
theorem dX8_doesSubmit_44 : decode cX8_doesSubmit 44 = .ok (.iaload, 1) := by decide +kernel
theorem dX8_doesSubmit_45 : decode cX8_doesSubmit 45 = .ok (.iconst 1, 1) := by decide +kernel
theorem dX8_doesSubmit_46 : decode cX8_doesSubmit 46 = .ok (.iadd, 1) := by decide +kernel
theorem dX8_doesSubmit_47 : decode cX8_doesSubmit 47 = .ok (.iastore, 1) := by decide +kernel
theorem dX8_doesSubmit_48 : decode cX8_doesSubmit 48 = .ok (.aload_n 0, 1) := by decide +kernel
theorem dX8_doesSubmit_49 : decode cX8_doesSubmit 49 = .ok (.iload 5, 2) := by decide +kernel
theorem dX8_doesSubmit_51 : decode cX8_doesSubmit 51 = .ok (.iconst 0, 1) := by decide +kernel
theorem dX8_doesSubmit_52 : decode cX8_doesSubmit 52 = .ok (.iload_n 1, 1) := by decide +kernel
theorem dX8_doesSubmit_53 : decode cX8_doesSubmit 53 = .ok (.invokevirtual 48, 3) := by decide +kernel
theorem dX8_doesSubmit_56 : decode cX8_doesSubmit 56 = .ok (.aload_n 0, 1) := by decide +kernel
theorem dX8_doesSubmit_57 : decode cX8_doesSubmit 57 = .ok (.iload 5, 2) := by decide +kernel
theorem dX8_doesSubmit_59 : decode cX8_doesSubmit 59 = .ok (.iconst 1, 1) := by decide +kernel
theorem dX8_doesSubmit_60 : decode cX8_doesSubmit 60 = .ok (.iload_n 2, 1) := by decide +kernel
theorem dX8_doesSubmit_61 : decode cX8_doesSubmit 61 = .ok (.invokevirtual 48, 3) := by decide +kernel
theorem dX8_doesSubmit_64 : decode cX8_doesSubmit 64 = .ok (.aload_n 0, 1) := by decide +kernel
theorem dX8_doesSubmit_65 : decode cX8_doesSubmit 65 = .ok (.iload 5, 2) := by decide +kernel
theorem dX8_doesSubmit_67 : decode cX8_doesSubmit 67 = .ok (.iconst 2, 1) := by decide +kernel
theorem dX8_doesSubmit_68 : decode cX8_doesSubmit 68 = .ok (.iload_n 3, 1) := by decide +kernel
theorem dX8_doesSubmit_69 : decode cX8_doesSubmit 69 = .ok (.ifCond .eq 7, 3) := by decide +kernel
theorem dX8_doesSubmit_72 : decode cX8_doesSubmit 72 = .ok (.iconst 1, 1) := by decide +kernel
theorem dX8_doesSubmit_73 : decode cX8_doesSubmit 73 = .ok (.goto 4, 3) := by decide +kernel
theorem dX8_doesSubmit_76 : decode cX8_doesSubmit 76 = .ok (.iconst 0, 1) := by decide +kernel
theorem dX8_doesSubmit_77 : decode cX8_doesSubmit 77 = .ok (.invokevirtual 48, 3) := by decide +kernel
theorem dX8_doesSubmit_80 : decode cX8_doesSubmit 80 = .ok (.aload_n 0, 1) := by decide +kernel
theorem dX8_doesSubmit_81 : decode cX8_doesSubmit 81 = .ok (.iload 5, 2) := by decide +kernel
theorem dX8_doesSubmit_83 : decode cX8_doesSubmit 83 = .ok (.iconst 3, 1) := by decide +kernel
theorem dX8_doesSubmit_84 : decode cX8_doesSubmit 84 = .ok (.iconst 1, 1) := by decide +kernel
theorem dX8_doesSubmit_85 : decode cX8_doesSubmit 85 = .ok (.invokevirtual 48, 3) := by decide +kernel
theorem dX8_doesSubmit_88 : decode cX8_doesSubmit 88 = .ok (.aload_n 0, 1) := by decide +kernel
theorem dX8_doesSubmit_89 : decode cX8_doesSubmit 89 = .ok (.iload 5, 2) := by decide +kernel
theorem dX8_doesSubmit_91 : decode cX8_doesSubmit 91 = .ok (.iconst 4, 1) := by decide +kernel
theorem dX8_doesSubmit_92 : decode cX8_doesSubmit 92 = .ok (.aload_n 0, 1) := by decide +kernel
theorem dX8_doesSubmit_93 : decode cX8_doesSubmit 93 = .ok (.getfield 7, 3) := by decide +kernel
theorem dX8_doesSubmit_96 : decode cX8_doesSubmit 96 = .ok (.iconst 0, 1) := by decide +kernel
theorem dX8_doesSubmit_97 : decode cX8_doesSubmit 97 = .ok (.iaload, 1) := by decide +kernel
theorem dX8_doesSubmit_98 : decode cX8_doesSubmit 98 = .ok (.invokevirtual 48, 3) := by decide +kernel
theorem dX8_doesSubmit_101 : decode cX8_doesSubmit 101 = .ok (.aload_n 0, 1) := by decide +kernel
theorem dX8_doesSubmit_102 : decode cX8_doesSubmit 102 = .ok (.iload 5, 2) := by decide +kernel
theorem dX8_doesSubmit_104 : decode cX8_doesSubmit 104 = .ok (.iconst 5, 1) := by decide +kernel
theorem dX8_doesSubmit_105 : decode cX8_doesSubmit 105 = .ok (.bipush (-5), 2) := by decide +kernel
theorem dX8_doesSubmit_107 : decode cX8_doesSubmit 107 = .ok (.invokevirtual 48, 3) := by decide +kernel
theorem dX8_doesSubmit_110 : decode cX8_doesSubmit 110 = .ok (.aload_n 0, 1) := by decide +kernel
theorem dX8_doesSubmit_111 : decode cX8_doesSubmit 111 = .ok (.iload 5, 2) := by decide +kernel
theorem dX8_doesSubmit_113 : decode cX8_doesSubmit 113 = .ok (.bipush 6, 2) := by decide +kernel
theorem dX8_doesSubmit_115 : decode cX8_doesSubmit 115 = .ok (.iload 4, 2) := by decide +kernel
theorem dX8_doesSubmit_117 : decode cX8_doesSubmit 117 = .ok (.invokevirtual 48, 3) := by decide +kernel
theorem dX8_doesSubmit_120 : decode cX8_doesSubmit 120 = .ok (.aload_n 0, 1) := by decide +kernel
theorem dX8_doesSubmit_121 : decode cX8_doesSubmit 121 = .ok (.iload 5, 2) := by decide +kernel
theorem dX8_doesSubmit_123 : decode cX8_doesSubmit 123 = .ok (.bipush 7, 2) := by decide +kernel
theorem dX8_doesSubmit_125 : decode cX8_doesSubmit 125 = .ok (.iconst 1, 1) := by decide +kernel
theorem dX8_doesSubmit_126 : decode cX8_doesSubmit 126 = .ok (.invokevirtual 48, 3) := by decide +kernel
theorem dX8_doesSubmit_129 : decode cX8_doesSubmit 129 = .ok (.iload_n 3, 1) := by decide +kernel
theorem dX8_doesSubmit_130 : decode cX8_doesSubmit 130 = .ok (.ifCond .eq 7, 3) := by decide +kernel
theorem dX8_doesSubmit_133 : decode cX8_doesSubmit 133 = .ok (.iconst 1, 1) := by decide +kernel
theorem dX8_doesSubmit_134 : decode cX8_doesSubmit 134 = .ok (.goto 34, 3) := by decide +kernel
theorem dX8_doesSubmit_137 : decode cX8_doesSubmit 137 = .ok (.aload_n 0, 1) := by decide +kernel
theorem dX8_doesSubmit_138 : decode cX8_doesSubmit 138 = .ok (.iload 4, 2) := by decide +kernel
theorem dX8_doesSubmit_140 : decode cX8_doesSubmit 140 = .ok (.invokevirtual 62, 3) := by decide +kernel
theorem dX8_doesSubmit_143 : decode cX8_doesSubmit 143 = .ok (.aload_n 0, 1) := by decide +kernel
theorem dX8_doesSubmit_144 : decode cX8_doesSubmit 144 = .ok (.getfield 7, 3) := by decide +kernel
theorem dX8_doesSubmit_147 : decode cX8_doesSubmit 147 = .ok (.iconst 3, 1) := by decide +kernel
theorem dX8_doesSubmit_148 : decode cX8_doesSubmit 148 = .ok (.iaload, 1) := by decide +kernel
theorem dX8_doesSubmit_149 : decode cX8_doesSubmit 149 = .ok (.if_icmp .lt 7, 3) := by decide +kernel
theorem dX8_doesSubmit_152 : decode cX8_doesSubmit 152 = .ok (.iconst 2, 1) := by decide +kernel
theorem dX8_doesSubmit_153 : decode cX8_doesSubmit 153 = .ok (.goto 15, 3) := by decide +kernel
theorem dX8_doesSubmit_156 : decode cX8_doesSubmit 156 = .ok (.aload_n 0, 1) := by decide +kernel
theorem dX8_doesSubmit_157 : decode cX8_doesSubmit 157 = .ok (.invokevirtual 77, 3) := by decide +kernel
theorem dX8_doesSubmit_160 : decode cX8_doesSubmit 160 = .ok (.ifCond .eq 7, 3) := by decide +kernel
theorem dX8_doesSubmit_163 : decode cX8_doesSubmit 163 = .ok (.iconst 3, 1) := by decide +kernel
theorem dX8_doesSubmit_164 : decode cX8_doesSubmit 164 = .ok (.goto 4, 3) := by decide +kernel
theorem dX8_doesSubmit_167 : decode cX8_doesSubmit 167 = .ok (.iconst 0, 1) := by decide +kernel
theorem dX8_doesSubmit_168 : decode cX8_doesSubmit 168 = .ok (.istore 6, 2) := by decide +kernel
theorem dX8_doesSubmit_170 : decode cX8_doesSubmit 170 = .ok (.iload 6, 2) := by decide +kernel
theorem dX8_doesSubmit_172 : decode cX8_doesSubmit 172 = .ok (.ifCond .le 9, 3) := by decide +kernel
theorem dX8_doesSubmit_175 : decode cX8_doesSubmit 175 = .ok (.aload_n 0, 1) := by decide +kernel
theorem dX8_doesSubmit_176 : decode cX8_doesSubmit 176 = .ok (.iload 6, 2) := by decide +kernel
theorem dX8_doesSubmit_178 : decode cX8_doesSubmit 178 = .ok (.invokevirtual 81, 3) := by decide +kernel
theorem dX8_doesSubmit_181 : decode cX8_doesSubmit 181 = .ok (.iload 5, 2) := by decide +kernel
theorem dX8_doesSubmit_183 : decode cX8_doesSubmit 183 = .ok (.ireturn, 1) := by decide +kernel
theorem dX8_doesFail_0 : decode cX8_doesFail 0 = .ok (.aload_n 0, 1) := by decide +kernel
theorem dX8_doesFail_1 : decode cX8_doesFail 1 = .ok (.iload_n 1, 1) := by decide +kernel
theorem dX8_doesFail_2 : decode cX8_doesFail 2 = .ok (.invokevirtual 96, 3) := by decide +kernel
theorem dX8_doesFail_5 : decode cX8_doesFail 5 = .ok (.istore_n 2, 1) := by decide +kernel
theorem dX8_doesFail_6 : decode cX8_doesFail 6 = .ok (.iload_n 2, 1) := by decide +kernel
theorem dX8_doesFail_7 : decode cX8_doesFail 7 = .ok (.bipush (-5), 2) := by decide +kernel
theorem dX8_doesFail_9 : decode cX8_doesFail 9 = .ok (.if_icmp .ne 6, 3) := by decide +kernel
theorem dX8_doesFail_12 : decode cX8_doesFail 12 = .ok (.bipush (-5), 2) := by decide +kernel
theorem dX8_doesFail_14 : decode cX8_doesFail 14 = .ok (.ireturn, 1) := by decide +kernel
theorem dX8_doesFail_15 : decode cX8_doesFail 15 = .ok (.aload_n 0, 1) := by decide +kernel
theorem dX8_doesFail_16 : decode cX8_doesFail 16 = .ok (.iload_n 2, 1) := by decide +kernel
theorem dX8_doesFail_17 : decode cX8_doesFail 17 = .ok (.iconst 3, 1) := by decide +kernel
theorem dX8_doesFail_18 : decode cX8_doesFail 18 = .ok (.invokevirtual 40, 3) := by decide +kernel
theorem dX8_doesFail_21 : decode cX8_doesFail 21 = .ok (.iconst 1, 1) := by decide +kernel
theorem dX8_doesFail_22 : decode cX8_doesFail 22 = .ok (.if_icmp .ne 12, 3) := by decide +kernel
theorem dX8_doesFail_25 : decode cX8_doesFail 25 = .ok (.aload_n 0, 1) := by decide +kernel
theorem dX8_doesFail_26 : decode cX8_doesFail 26 = .ok (.iload_n 2, 1) := by decide +kernel
theorem dX8_doesFail_27 : decode cX8_doesFail 27 = .ok (.iconst 5, 1) := by decide +kernel
theorem dX8_doesFail_28 : decode cX8_doesFail 28 = .ok (.invokevirtual 102, 3) := by decide +kernel
theorem dX8_doesFail_31 : decode cX8_doesFail 31 = .ok (.goto 10, 3) := by decide +kernel
theorem dX8_doesFail_34 : decode cX8_doesFail 34 = .ok (.aload_n 0, 1) := by decide +kernel
theorem dX8_doesFail_35 : decode cX8_doesFail 35 = .ok (.iload_n 2, 1) := by decide +kernel
theorem dX8_doesFail_36 : decode cX8_doesFail 36 = .ok (.iconst 3, 1) := by decide +kernel
theorem dX8_doesFail_37 : decode cX8_doesFail 37 = .ok (.iconst 5, 1) := by decide +kernel
theorem dX8_doesFail_38 : decode cX8_doesFail 38 = .ok (.invokevirtual 48, 3) := by decide +kernel
theorem dX8_doesFail_41 : decode cX8_doesFail 41 = .ok (.aload_n 0, 1) := by decide +kernel
theorem dX8_doesFail_42 : decode cX8_doesFail 42 = .ok (.getfield 7, 3) := by decide +kernel
theorem dX8_doesFail_45 : decode cX8_doesFail 45 = .ok (.bipush 11, 2) := by decide +kernel
theorem dX8_doesFail_47 : decode cX8_doesFail 47 = .ok (.dup2, 1) := by decide +kernel
theorem dX8_doesFail_48 : decode cX8_doesFail 48 = .ok (.iaload, 1) := by decide +kernel
theorem dX8_doesFail_49 : decode cX8_doesFail 49 = .ok (.iconst 1, 1) := by decide +kernel
theorem dX8_doesFail_50 : decode cX8_doesFail 50 = .ok (.iadd, 1) := by decide +kernel
theorem dX8_doesFail_51 : decode cX8_doesFail 51 = .ok (.iastore, 1) := by decide +kernel
theorem dX8_doesFail_52 : decode cX8_doesFail 52 = .ok (.iload_n 2, 1) := by decide +kernel
theorem dX8_doesFail_53 : decode cX8_doesFail 53 = .ok (.ireturn, 1) := by decide +kernel
theorem dX8_canWithdraw_0 : decode cX8_canWithdraw 0 = .ok (.aload_n 0, 1) := by decide +kernel
theorem dX8_canWithdraw_1 : decode cX8_canWithdraw 1 = .ok (.iload_n 1, 1) := by decide +kernel
theorem dX8_canWithdraw_2 : decode cX8_canWithdraw 2 = .ok (.invokevirtual 96, 3) := by decide +kernel
theorem dX8_canWithdraw_5 : decode cX8_canWithdraw 5 = .ok (.istore_n 2, 1) := by decide +kernel
theorem dX8_canWithdraw_6 : decode cX8_canWithdraw 6 = .ok (.iload_n 2, 1) := by decide +kernel
theorem dX8_canWithdraw_7 : decode cX8_canWithdraw 7 = .ok (.bipush (-5), 2) := by decide +kernel
theorem dX8_canWithdraw_9 : decode cX8_canWithdraw 9 = .ok (.if_icmp .eq 17, 3) := by decide +kernel
theorem dX8_canWithdraw_12 : decode cX8_canWithdraw 12 = .ok (.aload_n 0, 1) := by decide +kernel
theorem dX8_canWithdraw_13 : decode cX8_canWithdraw 13 = .ok (.iload_n 2, 1) := by decide +kernel
theorem dX8_canWithdraw_14 : decode cX8_canWithdraw 14 = .ok (.iconst 3, 1) := by decide +kernel
theorem dX8_canWithdraw_15 : decode cX8_canWithdraw 15 = .ok (.invokevirtual 40, 3) := by decide +kernel
theorem dX8_canWithdraw_18 : decode cX8_canWithdraw 18 = .ok (.iconst 1, 1) := by decide +kernel
theorem dX8_canWithdraw_19 : decode cX8_canWithdraw 19 = .ok (.if_icmp .ne 7, 3) := by decide +kernel
theorem dX8_canWithdraw_22 : decode cX8_canWithdraw 22 = .ok (.iconst 1, 1) := by decide +kernel
theorem dX8_canWithdraw_23 : decode cX8_canWithdraw 23 = .ok (.goto 4, 3) := by decide +kernel
theorem dX8_canWithdraw_26 : decode cX8_canWithdraw 26 = .ok (.iconst 0, 1) := by decide +kernel
theorem dX8_canWithdraw_27 : decode cX8_canWithdraw 27 = .ok (.ireturn, 1) := by decide +kernel
theorem dX8_doesWithdraw_0 : decode cX8_doesWithdraw 0 = .ok (.aload_n 0, 1) := by decide +kernel
theorem dX8_doesWithdraw_1 : decode cX8_doesWithdraw 1 = .ok (.iload_n 1, 1) := by decide +kernel
theorem dX8_doesWithdraw_2 : decode cX8_doesWithdraw 2 = .ok (.invokevirtual 96, 3) := by decide +kernel
theorem dX8_doesWithdraw_5 : decode cX8_doesWithdraw 5 = .ok (.istore_n 2, 1) := by decide +kernel
theorem dX8_doesWithdraw_6 : decode cX8_doesWithdraw 6 = .ok (.aload_n 0, 1) := by decide +kernel
theorem dX8_doesWithdraw_7 : decode cX8_doesWithdraw 7 = .ok (.iload_n 2, 1) := by decide +kernel
theorem dX8_doesWithdraw_8 : decode cX8_doesWithdraw 8 = .ok (.bipush 6, 2) := by decide +kernel
theorem dX8_doesWithdraw_10 : decode cX8_doesWithdraw 10 = .ok (.invokevirtual 102, 3) := by decide +kernel
theorem dX8_doesWithdraw_13 : decode cX8_doesWithdraw 13 = .ok (.aload_n 0, 1) := by decide +kernel
theorem dX8_doesWithdraw_14 : decode cX8_doesWithdraw 14 = .ok (.getfield 7, 3) := by decide +kernel
theorem dX8_doesWithdraw_17 : decode cX8_doesWithdraw 17 = .ok (.bipush 12, 2) := by decide +kernel
theorem dX8_doesWithdraw_19 : decode cX8_doesWithdraw 19 = .ok (.dup2, 1) := by decide +kernel
theorem dX8_doesWithdraw_20 : decode cX8_doesWithdraw 20 = .ok (.iaload, 1) := by decide +kernel
theorem dX8_doesWithdraw_21 : decode cX8_doesWithdraw 21 = .ok (.iconst 1, 1) := by decide +kernel
theorem dX8_doesWithdraw_22 : decode cX8_doesWithdraw 22 = .ok (.iadd, 1) := by decide +kernel
theorem dX8_doesWithdraw_23 : decode cX8_doesWithdraw 23 = .ok (.iastore, 1) := by decide +kernel
theorem dX8_doesWithdraw_24 : decode cX8_doesWithdraw 24 = .ok (.aload_n 0, 1) := by decide +kernel
theorem dX8_doesWithdraw_25 : decode cX8_doesWithdraw 25 = .ok (.aload_n 0, 1) := by decide +kernel
theorem dX8_doesWithdraw_26 : decode cX8_doesWithdraw 26 = .ok (.iload_n 2, 1) := by decide +kernel
theorem dX8_doesWithdraw_27 : decode cX8_doesWithdraw 27 = .ok (.bipush 6, 2) := by decide +kernel
theorem dX8_doesWithdraw_29 : decode cX8_doesWithdraw 29 = .ok (.invokevirtual 40, 3) := by decide +kernel
theorem dX8_doesWithdraw_32 : decode cX8_doesWithdraw 32 = .ok (.invokevirtual 68, 3) := by decide +kernel
theorem dX8_doesWithdraw_35 : decode cX8_doesWithdraw 35 = .ok (.ireturn, 1) := by decide +kernel
theorem dX8_doesCrash_0 : decode cX8_doesCrash 0 = .ok (.iconst 0, 1) := by decide +kernel
theorem dX8_doesCrash_1 : decode cX8_doesCrash 1 = .ok (.istore_n 1, 1) := by decide +kernel
theorem dX8_doesCrash_2 : decode cX8_doesCrash 2 = .ok (.iconst 0, 1) := by decide +kernel
theorem dX8_doesCrash_3 : decode cX8_doesCrash 3 = .ok (.istore_n 2, 1) := by decide +kernel
theorem dX8_doesCrash_4 : decode cX8_doesCrash 4 = .ok (.iload_n 2, 1) := by decide +kernel
theorem dX8_doesCrash_5 : decode cX8_doesCrash 5 = .ok (.aload_n 0, 1) := by decide +kernel
theorem dX8_doesCrash_6 : decode cX8_doesCrash 6 = .ok (.getfield 7, 3) := by decide +kernel
theorem dX8_doesCrash_9 : decode cX8_doesCrash 9 = .ok (.bipush 7, 2) := by decide +kernel
theorem dX8_doesCrash_11 : decode cX8_doesCrash 11 = .ok (.iaload, 1) := by decide +kernel
theorem dX8_doesCrash_12 : decode cX8_doesCrash 12 = .ok (.if_icmp .ge 35, 3) := by decide +kernel
theorem dX8_doesCrash_15 : decode cX8_doesCrash 15 = .ok (.aload_n 0, 1) := by decide +kernel
theorem dX8_doesCrash_16 : decode cX8_doesCrash 16 = .ok (.iload_n 2, 1) := by decide +kernel
theorem dX8_doesCrash_17 : decode cX8_doesCrash 17 = .ok (.iconst 0, 1) := by decide +kernel
theorem dX8_doesCrash_18 : decode cX8_doesCrash 18 = .ok (.invokevirtual 52, 3) := by decide +kernel
theorem dX8_doesCrash_21 : decode cX8_doesCrash 21 = .ok (.iconst 4, 1) := by decide +kernel
theorem dX8_doesCrash_22 : decode cX8_doesCrash 22 = .ok (.if_icmp .ge 19, 3) := by decide +kernel
theorem dX8_doesCrash_25 : decode cX8_doesCrash 25 = .ok (.iload_n 1, 1) := by decide +kernel
theorem dX8_doesCrash_26 : decode cX8_doesCrash 26 = .ok (.aload_n 0, 1) := by decide +kernel
theorem dX8_doesCrash_27 : decode cX8_doesCrash 27 = .ok (.iload_n 2, 1) := by decide +kernel
theorem dX8_doesCrash_28 : decode cX8_doesCrash 28 = .ok (.iconst 5, 1) := by decide +kernel
theorem dX8_doesCrash_29 : decode cX8_doesCrash 29 = .ok (.invokevirtual 65, 3) := by decide +kernel
theorem dX8_doesCrash_32 : decode cX8_doesCrash 32 = .ok (.iadd, 1) := by decide +kernel
theorem dX8_doesCrash_33 : decode cX8_doesCrash 33 = .ok (.istore_n 1, 1) := by decide +kernel
theorem dX8_doesCrash_34 : decode cX8_doesCrash 34 = .ok (.aload_n 0, 1) := by decide +kernel
theorem dX8_doesCrash_35 : decode cX8_doesCrash 35 = .ok (.iload_n 2, 1) := by decide +kernel
theorem dX8_doesCrash_36 : decode cX8_doesCrash 36 = .ok (.iconst 0, 1) := by decide +kernel
theorem dX8_doesCrash_37 : decode cX8_doesCrash 37 = .ok (.iconst 5, 1) := by decide +kernel
theorem dX8_doesCrash_38 : decode cX8_doesCrash 38 = .ok (.invokevirtual 59, 3) := by decide +kernel
theorem dX8_doesCrash_41 : decode cX8_doesCrash 41 = .ok (.iinc 2 1, 3) := by decide +kernel
theorem dX8_doesCrash_44 : decode cX8_doesCrash 44 = .ok (.goto (-40), 3) := by decide +kernel
theorem dX8_doesCrash_47 : decode cX8_doesCrash 47 = .ok (.aload_n 0, 1) := by decide +kernel
theorem dX8_doesCrash_48 : decode cX8_doesCrash 48 = .ok (.getfield 7, 3) := by decide +kernel
theorem dX8_doesCrash_51 : decode cX8_doesCrash 51 = .ok (.bipush 8, 2) := by decide +kernel
theorem dX8_doesCrash_53 : decode cX8_doesCrash 53 = .ok (.bipush (-5), 2) := by decide +kernel
theorem dX8_doesCrash_55 : decode cX8_doesCrash 55 = .ok (.iastore, 1) := by decide +kernel
theorem dX8_doesCrash_56 : decode cX8_doesCrash 56 = .ok (.aload_n 0, 1) := by decide +kernel
theorem dX8_doesCrash_57 : decode cX8_doesCrash 57 = .ok (.getfield 7, 3) := by decide +kernel
theorem dX8_doesCrash_60 : decode cX8_doesCrash 60 = .ok (.bipush 9, 2) := by decide +kernel
theorem dX8_doesCrash_62 : decode cX8_doesCrash 62 = .ok (.bipush (-5), 2) := by decide +kernel
theorem dX8_doesCrash_64 : decode cX8_doesCrash 64 = .ok (.iastore, 1) := by decide +kernel
theorem dX8_doesCrash_65 : decode cX8_doesCrash 65 = .ok (.aload_n 0, 1) := by decide +kernel
theorem dX8_doesCrash_66 : decode cX8_doesCrash 66 = .ok (.getfield 7, 3) := by decide +kernel
theorem dX8_doesCrash_69 : decode cX8_doesCrash 69 = .ok (.bipush 11, 2) := by decide +kernel
theorem dX8_doesCrash_71 : decode cX8_doesCrash 71 = .ok (.dup2, 1) := by decide +kernel
theorem dX8_doesCrash_72 : decode cX8_doesCrash 72 = .ok (.iaload, 1) := by decide +kernel
theorem dX8_doesCrash_73 : decode cX8_doesCrash 73 = .ok (.iload_n 1, 1) := by decide +kernel
theorem dX8_doesCrash_74 : decode cX8_doesCrash 74 = .ok (.iadd, 1) := by decide +kernel
theorem dX8_doesCrash_75 : decode cX8_doesCrash 75 = .ok (.iastore, 1) := by decide +kernel
theorem dX8_doesCrash_76 : decode cX8_doesCrash 76 = .ok (.iload_n 1, 1) := by decide +kernel
theorem dX8_doesCrash_77 : decode cX8_doesCrash 77 = .ok (.ireturn, 1) := by decide +kernel
theorem dX8_submit_0 : decode cX8_submit 0 = .ok (.aload_n 0, 1) := by decide +kernel
theorem dX8_submit_1 : decode cX8_submit 1 = .ok (.iload_n 1, 1) := by decide +kernel
theorem dX8_submit_2 : decode cX8_submit 2 = .ok (.iload_n 2, 1) := by decide +kernel
theorem dX8_submit_3 : decode cX8_submit 3 = .ok (.invokevirtual 106, 3) := by decide +kernel
theorem dX8_submit_6 : decode cX8_submit 6 = .ok (.istore 4, 2) := by decide +kernel
theorem dX8_submit_8 : decode cX8_submit 8 = .ok (.iload 4, 2) := by decide +kernel
theorem dX8_submit_10 : decode cX8_submit 10 = .ok (.ifCond .eq 6, 3) := by decide +kernel
theorem dX8_submit_13 : decode cX8_submit 13 = .ok (.iload 4, 2) := by decide +kernel
theorem dX8_submit_15 : decode cX8_submit 15 = .ok (.ireturn, 1) := by decide +kernel
theorem dX8_submit_16 : decode cX8_submit 16 = .ok (.aload_n 0, 1) := by decide +kernel
theorem dX8_submit_17 : decode cX8_submit 17 = .ok (.invokevirtual 37, 3) := by decide +kernel
theorem dX8_submit_20 : decode cX8_submit 20 = .ok (.aload_n 0, 1) := by decide +kernel
theorem dX8_submit_21 : decode cX8_submit 21 = .ok (.iload_n 1, 1) := by decide +kernel
theorem dX8_submit_22 : decode cX8_submit 22 = .ok (.iload_n 2, 1) := by decide +kernel
theorem dX8_submit_23 : decode cX8_submit 23 = .ok (.iload_n 3, 1) := by decide +kernel
theorem dX8_submit_24 : decode cX8_submit 24 = .ok (.invokevirtual 109, 3) := by decide +kernel
theorem dX8_submit_27 : decode cX8_submit 27 = .ok (.ireturn, 1) := by decide +kernel
theorem dX8_fail_0 : decode cX8_fail 0 = .ok (.iload_n 1, 1) := by decide +kernel
theorem dX8_fail_1 : decode cX8_fail 1 = .ok (.invokestatic 92, 3) := by decide +kernel
theorem dX8_fail_4 : decode cX8_fail 4 = .ok (.ifCond .ne 5, 3) := by decide +kernel
theorem dX8_fail_7 : decode cX8_fail 7 = .ok (.iconst (-1), 1) := by decide +kernel
theorem dX8_fail_8 : decode cX8_fail 8 = .ok (.ireturn, 1) := by decide +kernel
theorem dX8_fail_9 : decode cX8_fail 9 = .ok (.aload_n 0, 1) := by decide +kernel
theorem dX8_fail_10 : decode cX8_fail 10 = .ok (.invokevirtual 37, 3) := by decide +kernel
theorem dX8_fail_13 : decode cX8_fail 13 = .ok (.aload_n 0, 1) := by decide +kernel
theorem dX8_fail_14 : decode cX8_fail 14 = .ok (.iload_n 1, 1) := by decide +kernel
theorem dX8_fail_15 : decode cX8_fail 15 = .ok (.invokevirtual 113, 3) := by decide +kernel
theorem dX8_fail_18 : decode cX8_fail 18 = .ok (.ireturn, 1) := by decide +kernel
theorem dX8_withdraw_0 : decode cX8_withdraw 0 = .ok (.iload_n 1, 1) := by decide +kernel
theorem dX8_withdraw_1 : decode cX8_withdraw 1 = .ok (.invokestatic 92, 3) := by decide +kernel
theorem dX8_withdraw_4 : decode cX8_withdraw 4 = .ok (.ifCond .ne 5, 3) := by decide +kernel
theorem dX8_withdraw_7 : decode cX8_withdraw 7 = .ok (.iconst (-1), 1) := by decide +kernel
theorem dX8_withdraw_8 : decode cX8_withdraw 8 = .ok (.ireturn, 1) := by decide +kernel
theorem dX8_withdraw_9 : decode cX8_withdraw 9 = .ok (.aload_n 0, 1) := by decide +kernel
theorem dX8_withdraw_10 : decode cX8_withdraw 10 = .ok (.iload_n 1, 1) := by decide +kernel
theorem dX8_withdraw_11 : decode cX8_withdraw 11 = .ok (.invokevirtual 116, 3) := by decide +kernel
theorem dX8_withdraw_14 : decode cX8_withdraw 14 = .ok (.ifCond .ne 6, 3) := by decide +kernel
theorem dX8_withdraw_17 : decode cX8_withdraw 17 = .ok (.bipush (-4), 2) := by decide +kernel
theorem dX8_withdraw_19 : decode cX8_withdraw 19 = .ok (.ireturn, 1) := by decide +kernel
theorem dX8_withdraw_20 : decode cX8_withdraw 20 = .ok (.aload_n 0, 1) := by decide +kernel
theorem dX8_withdraw_21 : decode cX8_withdraw 21 = .ok (.invokevirtual 37, 3) := by decide +kernel
theorem dX8_withdraw_24 : decode cX8_withdraw 24 = .ok (.aload_n 0, 1) := by decide +kernel
theorem dX8_withdraw_25 : decode cX8_withdraw 25 = .ok (.iload_n 1, 1) := by decide +kernel
theorem dX8_withdraw_26 : decode cX8_withdraw 26 = .ok (.invokevirtual 119, 3) := by decide +kernel
theorem dX8_withdraw_29 : decode cX8_withdraw 29 = .ok (.ireturn, 1) := by decide +kernel
theorem dX8_crash_0 : decode cX8_crash 0 = .ok (.aload_n 0, 1) := by decide +kernel
theorem dX8_crash_1 : decode cX8_crash 1 = .ok (.invokevirtual 37, 3) := by decide +kernel
theorem dX8_crash_4 : decode cX8_crash 4 = .ok (.aload_n 0, 1) := by decide +kernel
theorem dX8_crash_5 : decode cX8_crash 5 = .ok (.invokevirtual 122, 3) := by decide +kernel
theorem dX8_crash_8 : decode cX8_crash 8 = .ok (.ireturn, 1) := by decide +kernel
theorem dX8_tick_0 : decode cX8_tick 0 = .ok (.iload_n 1, 1) := by decide +kernel
theorem dX8_tick_1 : decode cX8_tick 1 = .ok (.iconst 1, 1) := by decide +kernel
theorem dX8_tick_2 : decode cX8_tick 2 = .ok (.bipush 99, 2) := by decide +kernel
theorem dX8_tick_4 : decode cX8_tick 4 = .ok (.invokestatic 25, 3) := by decide +kernel
theorem dX8_tick_7 : decode cX8_tick 7 = .ok (.ifCond .ne 6, 3) := by decide +kernel
theorem dX8_tick_10 : decode cX8_tick 10 = .ok (.bipush (-2), 2) := by decide +kernel
theorem dX8_tick_12 : decode cX8_tick 12 = .ok (.ireturn, 1) := by decide +kernel
theorem dX8_tick_13 : decode cX8_tick 13 = .ok (.aload_n 0, 1) := by decide +kernel
theorem dX8_tick_14 : decode cX8_tick 14 = .ok (.invokevirtual 37, 3) := by decide +kernel
theorem dX8_tick_17 : decode cX8_tick 17 = .ok (.aload_n 0, 1) := by decide +kernel
theorem dX8_tick_18 : decode cX8_tick 18 = .ok (.iload_n 1, 1) := by decide +kernel
theorem dX8_tick_19 : decode cX8_tick 19 = .ok (.invokevirtual 125, 3) := by decide +kernel
theorem dX8_tick_22 : decode cX8_tick 22 = .ok (.ireturn, 1) := by decide +kernel
theorem dX8_leastOf_0 : decode cX8_leastOf 0 = .ok (.iload_n 0, 1) := by decide +kernel
theorem dX8_leastOf_1 : decode cX8_leastOf 1 = .ok (.ifCond .eq 8, 3) := by decide +kernel
theorem dX8_leastOf_4 : decode cX8_leastOf 4 = .ok (.iload_n 0, 1) := by decide +kernel
theorem dX8_leastOf_5 : decode cX8_leastOf 5 = .ok (.iconst 3, 1) := by decide +kernel
theorem dX8_leastOf_6 : decode cX8_leastOf 6 = .ok (.if_icmp .ne 7, 3) := by decide +kernel
theorem dX8_leastOf_9 : decode cX8_leastOf 9 = .ok (.iconst 0, 1) := by decide +kernel
theorem dX8_leastOf_10 : decode cX8_leastOf 10 = .ok (.goto 4, 3) := by decide +kernel
theorem dX8_leastOf_13 : decode cX8_leastOf 13 = .ok (.iconst 1, 1) := by decide +kernel
theorem dX8_leastOf_14 : decode cX8_leastOf 14 = .ok (.ireturn, 1) := by decide +kernel
theorem dX8_mostOf_0 : decode cX8_mostOf 0 = .ok (.iload_n 0, 1) := by decide +kernel
theorem dX8_mostOf_1 : decode cX8_mostOf 1 = .ok (.iconst 1, 1) := by decide +kernel
theorem dX8_mostOf_2 : decode cX8_mostOf 2 = .ok (.if_icmp .ne 8, 3) := by decide +kernel
theorem dX8_mostOf_5 : decode cX8_mostOf 5 = .ok (.bipush 40, 2) := by decide +kernel
theorem dX8_mostOf_7 : decode cX8_mostOf 7 = .ok (.goto 14, 3) := by decide +kernel
theorem dX8_mostOf_10 : decode cX8_mostOf 10 = .ok (.iload_n 0, 1) := by decide +kernel
theorem dX8_mostOf_11 : decode cX8_mostOf 11 = .ok (.iconst 3, 1) := by decide +kernel
theorem dX8_mostOf_12 : decode cX8_mostOf 12 = .ok (.if_icmp .ne 7, 3) := by decide +kernel
theorem dX8_mostOf_15 : decode cX8_mostOf 15 = .ok (.iconst 1, 1) := by decide +kernel
theorem dX8_mostOf_16 : decode cX8_mostOf 16 = .ok (.goto 5, 3) := by decide +kernel
theorem dX8_mostOf_19 : decode cX8_mostOf 19 = .ok (.bipush 20, 2) := by decide +kernel
theorem dX8_mostOf_21 : decode cX8_mostOf 21 = .ok (.ireturn, 1) := by decide +kernel
theorem dX8_set_0 : decode cX8_set 0 = .ok (.iload_n 1, 1) := by decide +kernel
theorem dX8_set_1 : decode cX8_set 1 = .ok (.iconst 0, 1) := by decide +kernel
theorem dX8_set_2 : decode cX8_set 2 = .ok (.iconst 3, 1) := by decide +kernel
theorem dX8_set_3 : decode cX8_set 3 = .ok (.invokestatic 25, 3) := by decide +kernel
theorem dX8_set_6 : decode cX8_set 6 = .ok (.ifCond .ne 5, 3) := by decide +kernel
theorem dX8_set_9 : decode cX8_set 9 = .ok (.iconst (-1), 1) := by decide +kernel
theorem dX8_set_10 : decode cX8_set 10 = .ok (.ireturn, 1) := by decide +kernel
theorem dX8_set_11 : decode cX8_set 11 = .ok (.iload_n 2, 1) := by decide +kernel
theorem dX8_set_12 : decode cX8_set 12 = .ok (.iload_n 1, 1) := by decide +kernel
theorem dX8_set_13 : decode cX8_set 13 = .ok (.invokestatic 128, 3) := by decide +kernel
theorem dX8_set_16 : decode cX8_set 16 = .ok (.iload_n 1, 1) := by decide +kernel
theorem dX8_set_17 : decode cX8_set 17 = .ok (.invokestatic 131, 3) := by decide +kernel
theorem dX8_set_20 : decode cX8_set 20 = .ok (.invokestatic 25, 3) := by decide +kernel
theorem dX8_set_23 : decode cX8_set 23 = .ok (.ifCond .ne 6, 3) := by decide +kernel
theorem dX8_set_26 : decode cX8_set 26 = .ok (.bipush (-2), 2) := by decide +kernel
theorem dX8_set_28 : decode cX8_set 28 = .ok (.ireturn, 1) := by decide +kernel
theorem dX8_set_29 : decode cX8_set 29 = .ok (.aload_n 0, 1) := by decide +kernel
theorem dX8_set_30 : decode cX8_set 30 = .ok (.invokevirtual 37, 3) := by decide +kernel
theorem dX8_set_33 : decode cX8_set 33 = .ok (.aload_n 0, 1) := by decide +kernel
theorem dX8_set_34 : decode cX8_set 34 = .ok (.getfield 7, 3) := by decide +kernel
theorem dX8_set_37 : decode cX8_set 37 = .ok (.iconst 2, 1) := by decide +kernel
theorem dX8_set_38 : decode cX8_set 38 = .ok (.iload_n 1, 1) := by decide +kernel
theorem dX8_set_39 : decode cX8_set 39 = .ok (.iadd, 1) := by decide +kernel
theorem dX8_set_40 : decode cX8_set 40 = .ok (.iaload, 1) := by decide +kernel
theorem dX8_set_41 : decode cX8_set 41 = .ok (.istore_n 3, 1) := by decide +kernel
theorem dX8_set_42 : decode cX8_set 42 = .ok (.aload_n 0, 1) := by decide +kernel
theorem dX8_set_43 : decode cX8_set 43 = .ok (.getfield 7, 3) := by decide +kernel
theorem dX8_set_46 : decode cX8_set 46 = .ok (.iconst 2, 1) := by decide +kernel
theorem dX8_set_47 : decode cX8_set 47 = .ok (.iload_n 1, 1) := by decide +kernel
theorem dX8_set_48 : decode cX8_set 48 = .ok (.iadd, 1) := by decide +kernel
theorem dX8_set_49 : decode cX8_set 49 = .ok (.iload_n 2, 1) := by decide +kernel
theorem dX8_set_50 : decode cX8_set 50 = .ok (.iastore, 1) := by decide +kernel
theorem dX8_set_51 : decode cX8_set 51 = .ok (.iload_n 3, 1) := by decide +kernel
theorem dX8_set_52 : decode cX8_set 52 = .ok (.ireturn, 1) := by decide +kernel
theorem dX8_append_0 : decode cX8_append 0 = .ok (.iload_n 1, 1) := by decide +kernel
theorem dX8_append_1 : decode cX8_append 1 = .ok (.bipush 32, 2) := by decide +kernel
theorem dX8_append_3 : decode cX8_append 3 = .ok (.bipush 126, 2) := by decide +kernel
theorem dX8_append_5 : decode cX8_append 5 = .ok (.invokestatic 25, 3) := by decide +kernel
theorem dX8_append_8 : decode cX8_append 8 = .ok (.ifCond .ne 6, 3) := by decide +kernel
theorem dX8_append_11 : decode cX8_append 11 = .ok (.bipush (-2), 2) := by decide +kernel
theorem dX8_append_13 : decode cX8_append 13 = .ok (.ireturn, 1) := by decide +kernel
theorem dX8_append_14 : decode cX8_append 14 = .ok (.aload_n 0, 1) := by decide +kernel
theorem dX8_append_15 : decode cX8_append 15 = .ok (.getfield 134, 3) := by decide +kernel
theorem dX8_append_18 : decode cX8_append 18 = .ok (.bipush 80, 2) := by decide +kernel
theorem dX8_append_20 : decode cX8_append 20 = .ok (.if_icmp .ne 6, 3) := by decide +kernel
theorem dX8_append_23 : decode cX8_append 23 = .ok (.bipush (-3), 2) := by decide +kernel
theorem dX8_append_25 : decode cX8_append 25 = .ok (.ireturn, 1) := by decide +kernel
theorem dX8_append_26 : decode cX8_append 26 = .ok (.aload_n 0, 1) := by decide +kernel
theorem dX8_append_27 : decode cX8_append 27 = .ok (.getfield 22, 3) := by decide +kernel
theorem dX8_append_30 : decode cX8_append 30 = .ok (.aload_n 0, 1) := by decide +kernel
theorem dX8_append_31 : decode cX8_append 31 = .ok (.getfield 134, 3) := by decide +kernel
theorem dX8_append_34 : decode cX8_append 34 = .ok (.iload_n 1, 1) := by decide +kernel
theorem dX8_append_35 : decode cX8_append 35 = .ok (.iastore, 1) := by decide +kernel
theorem dX8_append_36 : decode cX8_append 36 = .ok (.aload_n 0, 1) := by decide +kernel
theorem dX8_append_37 : decode cX8_append 37 = .ok (.dup, 1) := by decide +kernel
theorem dX8_append_38 : decode cX8_append 38 = .ok (.getfield 134, 3) := by decide +kernel
theorem dX8_append_41 : decode cX8_append 41 = .ok (.iconst 1, 1) := by decide +kernel
theorem dX8_append_42 : decode cX8_append 42 = .ok (.iadd, 1) := by decide +kernel
theorem dX8_append_43 : decode cX8_append 43 = .ok (.putfield 134, 3) := by decide +kernel
theorem dX8_append_46 : decode cX8_append 46 = .ok (.aload_n 0, 1) := by decide +kernel
theorem dX8_append_47 : decode cX8_append 47 = .ok (.getfield 134, 3) := by decide +kernel
theorem dX8_append_50 : decode cX8_append 50 = .ok (.ireturn, 1) := by decide +kernel
theorem dX8_clearText_0 : decode cX8_clearText 0 = .ok (.aload_n 0, 1) := by decide +kernel
theorem dX8_clearText_1 : decode cX8_clearText 1 = .ok (.getfield 134, 3) := by decide +kernel
theorem dX8_clearText_4 : decode cX8_clearText 4 = .ok (.istore_n 1, 1) := by decide +kernel
theorem dX8_clearText_5 : decode cX8_clearText 5 = .ok (.aload_n 0, 1) := by decide +kernel
theorem dX8_clearText_6 : decode cX8_clearText 6 = .ok (.iconst 0, 1) := by decide +kernel
theorem dX8_clearText_7 : decode cX8_clearText 7 = .ok (.putfield 134, 3) := by decide +kernel
theorem dX8_clearText_10 : decode cX8_clearText 10 = .ok (.iload_n 1, 1) := by decide +kernel
theorem dX8_clearText_11 : decode cX8_clearText 11 = .ok (.ireturn, 1) := by decide +kernel
theorem dX8_nextCharacter_0 : decode cX8_nextCharacter 0 = .ok (.aload_n 0, 1) := by decide +kernel
theorem dX8_nextCharacter_1 : decode cX8_nextCharacter 1 = .ok (.getfield 137, 3) := by decide +kernel
theorem dX8_nextCharacter_4 : decode cX8_nextCharacter 4 = .ok (.aload_n 0, 1) := by decide +kernel
theorem dX8_nextCharacter_5 : decode cX8_nextCharacter 5 = .ok (.getfield 134, 3) := by decide +kernel
theorem dX8_nextCharacter_8 : decode cX8_nextCharacter 8 = .ok (.if_icmp .ge 15, 3) := by decide +kernel
theorem dX8_nextCharacter_11 : decode cX8_nextCharacter 11 = .ok (.aload_n 0, 1) := by decide +kernel
theorem dX8_nextCharacter_12 : decode cX8_nextCharacter 12 = .ok (.getfield 22, 3) := by decide +kernel
theorem dX8_nextCharacter_15 : decode cX8_nextCharacter 15 = .ok (.aload_n 0, 1) := by decide +kernel
theorem dX8_nextCharacter_16 : decode cX8_nextCharacter 16 = .ok (.getfield 137, 3) := by decide +kernel
theorem dX8_nextCharacter_19 : decode cX8_nextCharacter 19 = .ok (.iaload, 1) := by decide +kernel
theorem dX8_nextCharacter_20 : decode cX8_nextCharacter 20 = .ok (.goto 4, 3) := by decide +kernel
theorem dX8_nextCharacter_23 : decode cX8_nextCharacter 23 = .ok (.iconst 0, 1) := by decide +kernel
theorem dX8_nextCharacter_24 : decode cX8_nextCharacter 24 = .ok (.ireturn, 1) := by decide +kernel
theorem dX8_takes_0 : decode cX8_takes 0 = .ok (.aload_n 0, 1) := by decide +kernel
theorem dX8_takes_1 : decode cX8_takes 1 = .ok (.invokevirtual 140, 3) := by decide +kernel
theorem dX8_takes_4 : decode cX8_takes 4 = .ok (.iload_n 1, 1) := by decide +kernel
theorem dX8_takes_5 : decode cX8_takes 5 = .ok (.if_icmp .ne 7, 3) := by decide +kernel
theorem dX8_takes_8 : decode cX8_takes 8 = .ok (.iconst 1, 1) := by decide +kernel
theorem dX8_takes_9 : decode cX8_takes 9 = .ok (.goto 4, 3) := by decide +kernel
theorem dX8_takes_12 : decode cX8_takes 12 = .ok (.iconst 0, 1) := by decide +kernel
theorem dX8_takes_13 : decode cX8_takes 13 = .ok (.istore_n 2, 1) := by decide +kernel
theorem dX8_takes_14 : decode cX8_takes 14 = .ok (.aload_n 0, 1) := by decide +kernel
theorem dX8_takes_15 : decode cX8_takes 15 = .ok (.dup, 1) := by decide +kernel
theorem dX8_takes_16 : decode cX8_takes 16 = .ok (.getfield 137, 3) := by decide +kernel
theorem dX8_takes_19 : decode cX8_takes 19 = .ok (.iload_n 2, 1) := by decide +kernel
theorem dX8_takes_20 : decode cX8_takes 20 = .ok (.ifCond .eq 7, 3) := by decide +kernel
theorem dX8_takes_23 : decode cX8_takes 23 = .ok (.iconst 1, 1) := by decide +kernel
theorem dX8_takes_24 : decode cX8_takes 24 = .ok (.goto 4, 3) := by decide +kernel
theorem dX8_takes_27 : decode cX8_takes 27 = .ok (.iconst 0, 1) := by decide +kernel
theorem dX8_takes_28 : decode cX8_takes 28 = .ok (.iadd, 1) := by decide +kernel
theorem dX8_takes_29 : decode cX8_takes 29 = .ok (.putfield 137, 3) := by decide +kernel
theorem dX8_takes_32 : decode cX8_takes 32 = .ok (.iload_n 2, 1) := by decide +kernel
theorem dX8_takes_33 : decode cX8_takes 33 = .ok (.ireturn, 1) := by decide +kernel
theorem dX8_readsNumber_0 : decode cX8_readsNumber 0 = .ok (.aload_n 0, 1) := by decide +kernel
theorem dX8_readsNumber_1 : decode cX8_readsNumber 1 = .ok (.aload_n 0, 1) := by decide +kernel
theorem dX8_readsNumber_2 : decode cX8_readsNumber 2 = .ok (.invokevirtual 140, 3) := by decide +kernel
theorem dX8_readsNumber_5 : decode cX8_readsNumber 5 = .ok (.bipush 48, 2) := by decide +kernel
theorem dX8_readsNumber_7 : decode cX8_readsNumber 7 = .ok (.isub, 1) := by decide +kernel
theorem dX8_readsNumber_8 : decode cX8_readsNumber 8 = .ok (.putfield 143, 3) := by decide +kernel
theorem dX8_readsNumber_11 : decode cX8_readsNumber 11 = .ok (.aload_n 0, 1) := by decide +kernel
theorem dX8_readsNumber_12 : decode cX8_readsNumber 12 = .ok (.getfield 143, 3) := by decide +kernel
theorem dX8_readsNumber_15 : decode cX8_readsNumber 15 = .ok (.iload_n 1, 1) := by decide +kernel
theorem dX8_readsNumber_16 : decode cX8_readsNumber 16 = .ok (.bipush 9, 2) := by decide +kernel
theorem dX8_readsNumber_18 : decode cX8_readsNumber 18 = .ok (.invokestatic 25, 3) := by decide +kernel
theorem dX8_readsNumber_21 : decode cX8_readsNumber 21 = .ok (.ifCond .ne 5, 3) := by decide +kernel
theorem dX8_readsNumber_24 : decode cX8_readsNumber 24 = .ok (.iconst 0, 1) := by decide +kernel
theorem dX8_readsNumber_25 : decode cX8_readsNumber 25 = .ok (.ireturn, 1) := by decide +kernel
theorem dX8_readsNumber_26 : decode cX8_readsNumber 26 = .ok (.aload_n 0, 1) := by decide +kernel
theorem dX8_readsNumber_27 : decode cX8_readsNumber 27 = .ok (.dup, 1) := by decide +kernel
theorem dX8_readsNumber_28 : decode cX8_readsNumber 28 = .ok (.getfield 137, 3) := by decide +kernel
theorem dX8_readsNumber_31 : decode cX8_readsNumber 31 = .ok (.iconst 1, 1) := by decide +kernel
theorem dX8_readsNumber_32 : decode cX8_readsNumber 32 = .ok (.iadd, 1) := by decide +kernel
theorem dX8_readsNumber_33 : decode cX8_readsNumber 33 = .ok (.putfield 137, 3) := by decide +kernel
theorem dX8_readsNumber_36 : decode cX8_readsNumber 36 = .ok (.aload_n 0, 1) := by decide +kernel
theorem dX8_readsNumber_37 : decode cX8_readsNumber 37 = .ok (.invokevirtual 140, 3) := by decide +kernel
theorem dX8_readsNumber_40 : decode cX8_readsNumber 40 = .ok (.bipush 48, 2) := by decide +kernel
theorem dX8_readsNumber_42 : decode cX8_readsNumber 42 = .ok (.isub, 1) := by decide +kernel
theorem dX8_readsNumber_43 : decode cX8_readsNumber 43 = .ok (.istore_n 3, 1) := by decide +kernel
theorem dX8_readsNumber_44 : decode cX8_readsNumber 44 = .ok (.aload_n 0, 1) := by decide +kernel
theorem dX8_readsNumber_45 : decode cX8_readsNumber 45 = .ok (.getfield 143, 3) := by decide +kernel
theorem dX8_readsNumber_48 : decode cX8_readsNumber 48 = .ok (.ifCond .le 49, 3) := by decide +kernel
theorem dX8_readsNumber_51 : decode cX8_readsNumber 51 = .ok (.iload_n 3, 1) := by decide +kernel
theorem dX8_readsNumber_52 : decode cX8_readsNumber 52 = .ok (.iconst 0, 1) := by decide +kernel
theorem dX8_readsNumber_53 : decode cX8_readsNumber 53 = .ok (.bipush 9, 2) := by decide +kernel
theorem dX8_readsNumber_55 : decode cX8_readsNumber 55 = .ok (.invokestatic 25, 3) := by decide +kernel
theorem dX8_readsNumber_58 : decode cX8_readsNumber 58 = .ok (.ifCond .eq 39, 3) := by decide +kernel
theorem dX8_readsNumber_61 : decode cX8_readsNumber 61 = .ok (.bipush 10, 2) := by decide +kernel
theorem dX8_readsNumber_63 : decode cX8_readsNumber 63 = .ok (.aload_n 0, 1) := by decide +kernel
theorem dX8_readsNumber_64 : decode cX8_readsNumber 64 = .ok (.getfield 143, 3) := by decide +kernel
theorem dX8_readsNumber_67 : decode cX8_readsNumber 67 = .ok (.imul, 1) := by decide +kernel
theorem dX8_readsNumber_68 : decode cX8_readsNumber 68 = .ok (.iload_n 3, 1) := by decide +kernel
theorem dX8_readsNumber_69 : decode cX8_readsNumber 69 = .ok (.iadd, 1) := by decide +kernel
theorem dX8_readsNumber_70 : decode cX8_readsNumber 70 = .ok (.iload_n 2, 1) := by decide +kernel
theorem dX8_readsNumber_71 : decode cX8_readsNumber 71 = .ok (.if_icmp .gt 26, 3) := by decide +kernel
theorem dX8_readsNumber_74 : decode cX8_readsNumber 74 = .ok (.aload_n 0, 1) := by decide +kernel
theorem dX8_readsNumber_75 : decode cX8_readsNumber 75 = .ok (.bipush 10, 2) := by decide +kernel
theorem dX8_readsNumber_77 : decode cX8_readsNumber 77 = .ok (.aload_n 0, 1) := by decide +kernel
theorem dX8_readsNumber_78 : decode cX8_readsNumber 78 = .ok (.getfield 143, 3) := by decide +kernel
theorem dX8_readsNumber_81 : decode cX8_readsNumber 81 = .ok (.imul, 1) := by decide +kernel
theorem dX8_readsNumber_82 : decode cX8_readsNumber 82 = .ok (.iload_n 3, 1) := by decide +kernel
theorem dX8_readsNumber_83 : decode cX8_readsNumber 83 = .ok (.iadd, 1) := by decide +kernel
theorem dX8_readsNumber_84 : decode cX8_readsNumber 84 = .ok (.putfield 143, 3) := by decide +kernel
theorem dX8_readsNumber_87 : decode cX8_readsNumber 87 = .ok (.aload_n 0, 1) := by decide +kernel
theorem dX8_readsNumber_88 : decode cX8_readsNumber 88 = .ok (.dup, 1) := by decide +kernel
theorem dX8_readsNumber_89 : decode cX8_readsNumber 89 = .ok (.getfield 137, 3) := by decide +kernel
theorem dX8_readsNumber_92 : decode cX8_readsNumber 92 = .ok (.iconst 1, 1) := by decide +kernel
theorem dX8_readsNumber_93 : decode cX8_readsNumber 93 = .ok (.iadd, 1) := by decide +kernel
theorem dX8_readsNumber_94 : decode cX8_readsNumber 94 = .ok (.putfield 137, 3) := by decide +kernel
theorem dX8_readsNumber_97 : decode cX8_readsNumber 97 = .ok (.iconst 1, 1) := by decide +kernel
theorem dX8_readsNumber_98 : decode cX8_readsNumber 98 = .ok (.ireturn, 1) := by decide +kernel
theorem dX8_readsSubmit_0 : decode cX8_readsSubmit 0 = .ok (.aload_n 0, 1) := by decide +kernel
theorem dX8_readsSubmit_1 : decode cX8_readsSubmit 1 = .ok (.iconst 0, 1) := by decide +kernel
theorem dX8_readsSubmit_2 : decode cX8_readsSubmit 2 = .ok (.bipush 11, 2) := by decide +kernel
theorem dX8_readsSubmit_4 : decode cX8_readsSubmit 4 = .ok (.invokevirtual 146, 3) := by decide +kernel
theorem dX8_readsSubmit_7 : decode cX8_readsSubmit 7 = .ok (.ifCond .eq 12, 3) := by decide +kernel
theorem dX8_readsSubmit_10 : decode cX8_readsSubmit 10 = .ok (.aload_n 0, 1) := by decide +kernel
theorem dX8_readsSubmit_11 : decode cX8_readsSubmit 11 = .ok (.bipush 58, 2) := by decide +kernel
theorem dX8_readsSubmit_13 : decode cX8_readsSubmit 13 = .ok (.invokevirtual 149, 3) := by decide +kernel
theorem dX8_readsSubmit_16 : decode cX8_readsSubmit 16 = .ok (.ifCond .ne 5, 3) := by decide +kernel
theorem dX8_readsSubmit_19 : decode cX8_readsSubmit 19 = .ok (.iconst 0, 1) := by decide +kernel
theorem dX8_readsSubmit_20 : decode cX8_readsSubmit 20 = .ok (.ireturn, 1) := by decide +kernel
theorem dX8_readsSubmit_21 : decode cX8_readsSubmit 21 = .ok (.aload_n 0, 1) := by decide +kernel
theorem dX8_readsSubmit_22 : decode cX8_readsSubmit 22 = .ok (.aload_n 0, 1) := by decide +kernel
theorem dX8_readsSubmit_23 : decode cX8_readsSubmit 23 = .ok (.invokevirtual 140, 3) := by decide +kernel
theorem dX8_readsSubmit_26 : decode cX8_readsSubmit 26 = .ok (.bipush 48, 2) := by decide +kernel
theorem dX8_readsSubmit_28 : decode cX8_readsSubmit 28 = .ok (.isub, 1) := by decide +kernel
theorem dX8_readsSubmit_29 : decode cX8_readsSubmit 29 = .ok (.putfield 152, 3) := by decide +kernel
theorem dX8_readsSubmit_32 : decode cX8_readsSubmit 32 = .ok (.aload_n 0, 1) := by decide +kernel
theorem dX8_readsSubmit_33 : decode cX8_readsSubmit 33 = .ok (.getfield 152, 3) := by decide +kernel
theorem dX8_readsSubmit_36 : decode cX8_readsSubmit 36 = .ok (.iconst 1, 1) := by decide +kernel
theorem dX8_readsSubmit_37 : decode cX8_readsSubmit 37 = .ok (.bipush 8, 2) := by decide +kernel
theorem dX8_readsSubmit_39 : decode cX8_readsSubmit 39 = .ok (.invokestatic 25, 3) := by decide +kernel
theorem dX8_readsSubmit_42 : decode cX8_readsSubmit 42 = .ok (.ifCond .ne 5, 3) := by decide +kernel
theorem dX8_readsSubmit_45 : decode cX8_readsSubmit 45 = .ok (.iconst 0, 1) := by decide +kernel
theorem dX8_readsSubmit_46 : decode cX8_readsSubmit 46 = .ok (.ireturn, 1) := by decide +kernel
theorem dX8_readsSubmit_47 : decode cX8_readsSubmit 47 = .ok (.aload_n 0, 1) := by decide +kernel
theorem dX8_readsSubmit_48 : decode cX8_readsSubmit 48 = .ok (.dup, 1) := by decide +kernel
theorem dX8_readsSubmit_49 : decode cX8_readsSubmit 49 = .ok (.getfield 137, 3) := by decide +kernel
theorem dX8_readsSubmit_52 : decode cX8_readsSubmit 52 = .ok (.iconst 1, 1) := by decide +kernel
theorem dX8_readsSubmit_53 : decode cX8_readsSubmit 53 = .ok (.iadd, 1) := by decide +kernel
theorem dX8_readsSubmit_54 : decode cX8_readsSubmit 54 = .ok (.putfield 137, 3) := by decide +kernel
theorem dX8_readsSubmit_57 : decode cX8_readsSubmit 57 = .ok (.aload_n 0, 1) := by decide +kernel
theorem dX8_readsSubmit_58 : decode cX8_readsSubmit 58 = .ok (.aload_n 0, 1) := by decide +kernel
theorem dX8_readsSubmit_59 : decode cX8_readsSubmit 59 = .ok (.bipush 33, 2) := by decide +kernel
theorem dX8_readsSubmit_61 : decode cX8_readsSubmit 61 = .ok (.invokevirtual 149, 3) := by decide +kernel
theorem dX8_readsSubmit_64 : decode cX8_readsSubmit 64 = .ok (.putfield 155, 3) := by decide +kernel
theorem dX8_readsSubmit_67 : decode cX8_readsSubmit 67 = .ok (.iconst 1, 1) := by decide +kernel
theorem dX8_readsSubmit_68 : decode cX8_readsSubmit 68 = .ok (.ireturn, 1) := by decide +kernel
theorem dX8_readsOrder_0 : decode cX8_readsOrder 0 = .ok (.aload_n 0, 1) := by decide +kernel
theorem dX8_readsOrder_1 : decode cX8_readsOrder 1 = .ok (.aload_n 0, 1) := by decide +kernel
theorem dX8_readsOrder_2 : decode cX8_readsOrder 2 = .ok (.invokevirtual 140, 3) := by decide +kernel
theorem dX8_readsOrder_5 : decode cX8_readsOrder 5 = .ok (.putfield 158, 3) := by decide +kernel
theorem dX8_readsOrder_8 : decode cX8_readsOrder 8 = .ok (.aload_n 0, 1) := by decide +kernel
theorem dX8_readsOrder_9 : decode cX8_readsOrder 9 = .ok (.getfield 158, 3) := by decide +kernel
theorem dX8_readsOrder_12 : decode cX8_readsOrder 12 = .ok (.lookupswitch 92 #[(42, 80), (43, 62), (102, 44), (119, 44)], 44) := by decide +kernel
theorem dX8_readsOrder_56 : decode cX8_readsOrder 56 = .ok (.aload_n 0, 1) := by decide +kernel
theorem dX8_readsOrder_57 : decode cX8_readsOrder 57 = .ok (.dup, 1) := by decide +kernel
theorem dX8_readsOrder_58 : decode cX8_readsOrder 58 = .ok (.getfield 137, 3) := by decide +kernel
theorem dX8_readsOrder_61 : decode cX8_readsOrder 61 = .ok (.iconst 1, 1) := by decide +kernel
theorem dX8_readsOrder_62 : decode cX8_readsOrder 62 = .ok (.iadd, 1) := by decide +kernel
theorem dX8_readsOrder_63 : decode cX8_readsOrder 63 = .ok (.putfield 137, 3) := by decide +kernel
theorem dX8_readsOrder_66 : decode cX8_readsOrder 66 = .ok (.aload_n 0, 1) := by decide +kernel
theorem dX8_readsOrder_67 : decode cX8_readsOrder 67 = .ok (.iconst 0, 1) := by decide +kernel
theorem dX8_readsOrder_68 : decode cX8_readsOrder 68 = .ok (.bipush 11, 2) := by decide +kernel
theorem dX8_readsOrder_70 : decode cX8_readsOrder 70 = .ok (.invokevirtual 146, 3) := by decide +kernel
theorem dX8_readsOrder_73 : decode cX8_readsOrder 73 = .ok (.ireturn, 1) := by decide +kernel
theorem dX8_readsOrder_74 : decode cX8_readsOrder 74 = .ok (.aload_n 0, 1) := by decide +kernel
theorem dX8_readsOrder_75 : decode cX8_readsOrder 75 = .ok (.dup, 1) := by decide +kernel
theorem dX8_readsOrder_76 : decode cX8_readsOrder 76 = .ok (.getfield 137, 3) := by decide +kernel
theorem dX8_readsOrder_79 : decode cX8_readsOrder 79 = .ok (.iconst 1, 1) := by decide +kernel
theorem dX8_readsOrder_80 : decode cX8_readsOrder 80 = .ok (.iadd, 1) := by decide +kernel
theorem dX8_readsOrder_81 : decode cX8_readsOrder 81 = .ok (.putfield 137, 3) := by decide +kernel
theorem dX8_readsOrder_84 : decode cX8_readsOrder 84 = .ok (.aload_n 0, 1) := by decide +kernel
theorem dX8_readsOrder_85 : decode cX8_readsOrder 85 = .ok (.iconst 1, 1) := by decide +kernel
theorem dX8_readsOrder_86 : decode cX8_readsOrder 86 = .ok (.bipush 99, 2) := by decide +kernel
theorem dX8_readsOrder_88 : decode cX8_readsOrder 88 = .ok (.invokevirtual 146, 3) := by decide +kernel
theorem dX8_readsOrder_91 : decode cX8_readsOrder 91 = .ok (.ireturn, 1) := by decide +kernel
theorem dX8_readsOrder_92 : decode cX8_readsOrder 92 = .ok (.aload_n 0, 1) := by decide +kernel
theorem dX8_readsOrder_93 : decode cX8_readsOrder 93 = .ok (.dup, 1) := by decide +kernel
theorem dX8_readsOrder_94 : decode cX8_readsOrder 94 = .ok (.getfield 137, 3) := by decide +kernel
theorem dX8_readsOrder_97 : decode cX8_readsOrder 97 = .ok (.iconst 1, 1) := by decide +kernel
theorem dX8_readsOrder_98 : decode cX8_readsOrder 98 = .ok (.iadd, 1) := by decide +kernel
theorem dX8_readsOrder_99 : decode cX8_readsOrder 99 = .ok (.putfield 137, 3) := by decide +kernel
theorem dX8_readsOrder_102 : decode cX8_readsOrder 102 = .ok (.iconst 1, 1) := by decide +kernel
theorem dX8_readsOrder_103 : decode cX8_readsOrder 103 = .ok (.ireturn, 1) := by decide +kernel
theorem dX8_readsOrder_104 : decode cX8_readsOrder 104 = .ok (.aload_n 0, 1) := by decide +kernel
theorem dX8_readsOrder_105 : decode cX8_readsOrder 105 = .ok (.invokevirtual 161, 3) := by decide +kernel
theorem dX8_readsOrder_108 : decode cX8_readsOrder 108 = .ok (.ireturn, 1) := by decide +kernel
theorem dX8_findFault_0 : decode cX8_findFault 0 = .ok (.aload_n 0, 1) := by decide +kernel
theorem dX8_findFault_1 : decode cX8_findFault 1 = .ok (.iconst 0, 1) := by decide +kernel
theorem dX8_findFault_2 : decode cX8_findFault 2 = .ok (.putfield 137, 3) := by decide +kernel
theorem dX8_findFault_5 : decode cX8_findFault 5 = .ok (.aload_n 0, 1) := by decide +kernel
theorem dX8_findFault_6 : decode cX8_findFault 6 = .ok (.invokevirtual 164, 3) := by decide +kernel
theorem dX8_findFault_9 : decode cX8_findFault 9 = .ok (.ifCond .eq 31, 3) := by decide +kernel
theorem dX8_findFault_12 : decode cX8_findFault 12 = .ok (.aload_n 0, 1) := by decide +kernel
theorem dX8_findFault_13 : decode cX8_findFault 13 = .ok (.getfield 137, 3) := by decide +kernel
theorem dX8_findFault_16 : decode cX8_findFault 16 = .ok (.aload_n 0, 1) := by decide +kernel
theorem dX8_findFault_17 : decode cX8_findFault 17 = .ok (.getfield 134, 3) := by decide +kernel
theorem dX8_findFault_20 : decode cX8_findFault 20 = .ok (.if_icmp .ne 6, 3) := by decide +kernel
theorem dX8_findFault_23 : decode cX8_findFault 23 = .ok (.bipush (-5), 2) := by decide +kernel
theorem dX8_findFault_25 : decode cX8_findFault 25 = .ok (.ireturn, 1) := by decide +kernel
theorem dX8_findFault_26 : decode cX8_findFault 26 = .ok (.aload_n 0, 1) := by decide +kernel
theorem dX8_findFault_27 : decode cX8_findFault 27 = .ok (.bipush 59, 2) := by decide +kernel
theorem dX8_findFault_29 : decode cX8_findFault 29 = .ok (.invokevirtual 149, 3) := by decide +kernel
theorem dX8_findFault_32 : decode cX8_findFault 32 = .ok (.ifCond .ne (-27), 3) := by decide +kernel
theorem dX8_findFault_35 : decode cX8_findFault 35 = .ok (.aload_n 0, 1) := by decide +kernel
theorem dX8_findFault_36 : decode cX8_findFault 36 = .ok (.getfield 137, 3) := by decide +kernel
theorem dX8_findFault_39 : decode cX8_findFault 39 = .ok (.ireturn, 1) := by decide +kernel
theorem dX8_findFault_40 : decode cX8_findFault 40 = .ok (.aload_n 0, 1) := by decide +kernel
theorem dX8_findFault_41 : decode cX8_findFault 41 = .ok (.getfield 137, 3) := by decide +kernel
theorem dX8_findFault_44 : decode cX8_findFault 44 = .ok (.ireturn, 1) := by decide +kernel
theorem dX8_fault_0 : decode cX8_fault 0 = .ok (.aload_n 0, 1) := by decide +kernel
theorem dX8_fault_1 : decode cX8_fault 1 = .ok (.invokevirtual 167, 3) := by decide +kernel
theorem dX8_fault_4 : decode cX8_fault 4 = .ok (.ireturn, 1) := by decide +kernel
theorem dX8_doesOrder_0 : decode cX8_doesOrder 0 = .ok (.aload_n 0, 1) := by decide +kernel
theorem dX8_doesOrder_1 : decode cX8_doesOrder 1 = .ok (.getfield 158, 3) := by decide +kernel
theorem dX8_doesOrder_4 : decode cX8_doesOrder 4 = .ok (.lookupswitch 121 #[(42, 108), (43, 91), (102, 44), (119, 63)], 44) := by decide +kernel
theorem dX8_doesOrder_48 : decode cX8_doesOrder 48 = .ok (.aload_n 0, 1) := by decide +kernel
theorem dX8_doesOrder_49 : decode cX8_doesOrder 49 = .ok (.aload_n 0, 1) := by decide +kernel
theorem dX8_doesOrder_50 : decode cX8_doesOrder 50 = .ok (.getfield 143, 3) := by decide +kernel
theorem dX8_doesOrder_53 : decode cX8_doesOrder 53 = .ok (.invokevirtual 113, 3) := by decide +kernel
theorem dX8_doesOrder_56 : decode cX8_doesOrder 56 = .ok (.bipush (-5), 2) := by decide +kernel
theorem dX8_doesOrder_58 : decode cX8_doesOrder 58 = .ok (.if_icmp .lt 7, 3) := by decide +kernel
theorem dX8_doesOrder_61 : decode cX8_doesOrder 61 = .ok (.iconst 1, 1) := by decide +kernel
theorem dX8_doesOrder_62 : decode cX8_doesOrder 62 = .ok (.goto 4, 3) := by decide +kernel
theorem dX8_doesOrder_65 : decode cX8_doesOrder 65 = .ok (.iconst 0, 1) := by decide +kernel
theorem dX8_doesOrder_66 : decode cX8_doesOrder 66 = .ok (.ireturn, 1) := by decide +kernel
theorem dX8_doesOrder_67 : decode cX8_doesOrder 67 = .ok (.aload_n 0, 1) := by decide +kernel
theorem dX8_doesOrder_68 : decode cX8_doesOrder 68 = .ok (.aload_n 0, 1) := by decide +kernel
theorem dX8_doesOrder_69 : decode cX8_doesOrder 69 = .ok (.getfield 143, 3) := by decide +kernel
theorem dX8_doesOrder_72 : decode cX8_doesOrder 72 = .ok (.invokevirtual 116, 3) := by decide +kernel
theorem dX8_doesOrder_75 : decode cX8_doesOrder 75 = .ok (.ifCond .eq 18, 3) := by decide +kernel
theorem dX8_doesOrder_78 : decode cX8_doesOrder 78 = .ok (.aload_n 0, 1) := by decide +kernel
theorem dX8_doesOrder_79 : decode cX8_doesOrder 79 = .ok (.aload_n 0, 1) := by decide +kernel
theorem dX8_doesOrder_80 : decode cX8_doesOrder 80 = .ok (.getfield 143, 3) := by decide +kernel
theorem dX8_doesOrder_83 : decode cX8_doesOrder 83 = .ok (.invokevirtual 119, 3) := by decide +kernel
theorem dX8_doesOrder_86 : decode cX8_doesOrder 86 = .ok (.ifCond .lt 7, 3) := by decide +kernel
theorem dX8_doesOrder_89 : decode cX8_doesOrder 89 = .ok (.iconst 1, 1) := by decide +kernel
theorem dX8_doesOrder_90 : decode cX8_doesOrder 90 = .ok (.goto 4, 3) := by decide +kernel
theorem dX8_doesOrder_93 : decode cX8_doesOrder 93 = .ok (.iconst 0, 1) := by decide +kernel
theorem dX8_doesOrder_94 : decode cX8_doesOrder 94 = .ok (.ireturn, 1) := by decide +kernel
theorem dX8_doesOrder_95 : decode cX8_doesOrder 95 = .ok (.aload_n 0, 1) := by decide +kernel
theorem dX8_doesOrder_96 : decode cX8_doesOrder 96 = .ok (.aload_n 0, 1) := by decide +kernel
theorem dX8_doesOrder_97 : decode cX8_doesOrder 97 = .ok (.getfield 143, 3) := by decide +kernel
theorem dX8_doesOrder_100 : decode cX8_doesOrder 100 = .ok (.invokevirtual 125, 3) := by decide +kernel
theorem dX8_doesOrder_103 : decode cX8_doesOrder 103 = .ok (.ifCond .lt 7, 3) := by decide +kernel
theorem dX8_doesOrder_106 : decode cX8_doesOrder 106 = .ok (.iconst 1, 1) := by decide +kernel
theorem dX8_doesOrder_107 : decode cX8_doesOrder 107 = .ok (.goto 4, 3) := by decide +kernel
theorem dX8_doesOrder_110 : decode cX8_doesOrder 110 = .ok (.iconst 0, 1) := by decide +kernel
theorem dX8_doesOrder_111 : decode cX8_doesOrder 111 = .ok (.ireturn, 1) := by decide +kernel
theorem dX8_doesOrder_112 : decode cX8_doesOrder 112 = .ok (.aload_n 0, 1) := by decide +kernel
theorem dX8_doesOrder_113 : decode cX8_doesOrder 113 = .ok (.invokevirtual 122, 3) := by decide +kernel
theorem dX8_doesOrder_116 : decode cX8_doesOrder 116 = .ok (.ifCond .lt 7, 3) := by decide +kernel
theorem dX8_doesOrder_119 : decode cX8_doesOrder 119 = .ok (.iconst 1, 1) := by decide +kernel
theorem dX8_doesOrder_120 : decode cX8_doesOrder 120 = .ok (.goto 4, 3) := by decide +kernel
theorem dX8_doesOrder_123 : decode cX8_doesOrder 123 = .ok (.iconst 0, 1) := by decide +kernel
theorem dX8_doesOrder_124 : decode cX8_doesOrder 124 = .ok (.ireturn, 1) := by decide +kernel
theorem dX8_doesOrder_125 : decode cX8_doesOrder 125 = .ok (.aload_n 0, 1) := by decide +kernel
theorem dX8_doesOrder_126 : decode cX8_doesOrder 126 = .ok (.aload_n 0, 1) := by decide +kernel
theorem dX8_doesOrder_127 : decode cX8_doesOrder 127 = .ok (.getfield 143, 3) := by decide +kernel
theorem dX8_doesOrder_130 : decode cX8_doesOrder 130 = .ok (.aload_n 0, 1) := by decide +kernel
theorem dX8_doesOrder_131 : decode cX8_doesOrder 131 = .ok (.getfield 152, 3) := by decide +kernel
theorem dX8_doesOrder_134 : decode cX8_doesOrder 134 = .ok (.invokevirtual 106, 3) := by decide +kernel
theorem dX8_doesOrder_137 : decode cX8_doesOrder 137 = .ok (.ifCond .ne 26, 3) := by decide +kernel
theorem dX8_doesOrder_140 : decode cX8_doesOrder 140 = .ok (.aload_n 0, 1) := by decide +kernel
theorem dX8_doesOrder_141 : decode cX8_doesOrder 141 = .ok (.aload_n 0, 1) := by decide +kernel
theorem dX8_doesOrder_142 : decode cX8_doesOrder 142 = .ok (.getfield 143, 3) := by decide +kernel
theorem dX8_doesOrder_145 : decode cX8_doesOrder 145 = .ok (.aload_n 0, 1) := by decide +kernel
theorem dX8_doesOrder_146 : decode cX8_doesOrder 146 = .ok (.getfield 152, 3) := by decide +kernel
theorem dX8_doesOrder_149 : decode cX8_doesOrder 149 = .ok (.aload_n 0, 1) := by decide +kernel
theorem dX8_doesOrder_150 : decode cX8_doesOrder 150 = .ok (.getfield 155, 3) := by decide +kernel
theorem dX8_doesOrder_153 : decode cX8_doesOrder 153 = .ok (.invokevirtual 109, 3) := by decide +kernel
theorem dX8_doesOrder_156 : decode cX8_doesOrder 156 = .ok (.ifCond .lt 7, 3) := by decide +kernel
theorem dX8_doesOrder_159 : decode cX8_doesOrder 159 = .ok (.iconst 1, 1) := by decide +kernel
theorem dX8_doesOrder_160 : decode cX8_doesOrder 160 = .ok (.goto 4, 3) := by decide +kernel
theorem dX8_doesOrder_163 : decode cX8_doesOrder 163 = .ok (.iconst 0, 1) := by decide +kernel
theorem dX8_doesOrder_164 : decode cX8_doesOrder 164 = .ok (.ireturn, 1) := by decide +kernel
theorem dX8_run_0 : decode cX8_run 0 = .ok (.aload_n 0, 1) := by decide +kernel
theorem dX8_run_1 : decode cX8_run 1 = .ok (.invokevirtual 167, 3) := by decide +kernel
theorem dX8_run_4 : decode cX8_run 4 = .ok (.istore_n 1, 1) := by decide +kernel
theorem dX8_run_5 : decode cX8_run 5 = .ok (.iload_n 1, 1) := by decide +kernel
theorem dX8_run_6 : decode cX8_run 6 = .ok (.bipush (-5), 2) := by decide +kernel
theorem dX8_run_8 : decode cX8_run 8 = .ok (.if_icmp .eq 8, 3) := by decide +kernel
theorem dX8_run_11 : decode cX8_run 11 = .ok (.bipush (-100), 2) := by decide +kernel
theorem dX8_run_13 : decode cX8_run 13 = .ok (.iload_n 1, 1) := by decide +kernel
theorem dX8_run_14 : decode cX8_run 14 = .ok (.isub, 1) := by decide +kernel
theorem dX8_run_15 : decode cX8_run 15 = .ok (.ireturn, 1) := by decide +kernel
theorem dX8_run_16 : decode cX8_run 16 = .ok (.aload_n 0, 1) := by decide +kernel
theorem dX8_run_17 : decode cX8_run 17 = .ok (.invokevirtual 37, 3) := by decide +kernel
theorem dX8_run_20 : decode cX8_run 20 = .ok (.aload_n 0, 1) := by decide +kernel
theorem dX8_run_21 : decode cX8_run 21 = .ok (.iconst 0, 1) := by decide +kernel
theorem dX8_run_22 : decode cX8_run 22 = .ok (.putfield 137, 3) := by decide +kernel
theorem dX8_run_25 : decode cX8_run 25 = .ok (.iconst 0, 1) := by decide +kernel
theorem dX8_run_26 : decode cX8_run 26 = .ok (.istore_n 2, 1) := by decide +kernel
theorem dX8_run_27 : decode cX8_run 27 = .ok (.iconst 1, 1) := by decide +kernel
theorem dX8_run_28 : decode cX8_run 28 = .ok (.istore_n 3, 1) := by decide +kernel
theorem dX8_run_29 : decode cX8_run 29 = .ok (.iload_n 3, 1) := by decide +kernel
theorem dX8_run_30 : decode cX8_run 30 = .ok (.ifCond .eq 59, 3) := by decide +kernel
theorem dX8_run_33 : decode cX8_run 33 = .ok (.aload_n 0, 1) := by decide +kernel
theorem dX8_run_34 : decode cX8_run 34 = .ok (.getfield 137, 3) := by decide +kernel
theorem dX8_run_37 : decode cX8_run 37 = .ok (.aload_n 0, 1) := by decide +kernel
theorem dX8_run_38 : decode cX8_run 38 = .ok (.getfield 134, 3) := by decide +kernel
theorem dX8_run_41 : decode cX8_run 41 = .ok (.if_icmp .ge 48, 3) := by decide +kernel
theorem dX8_run_44 : decode cX8_run 44 = .ok (.aload_n 0, 1) := by decide +kernel
theorem dX8_run_45 : decode cX8_run 45 = .ok (.invokevirtual 164, 3) := by decide +kernel
theorem dX8_run_48 : decode cX8_run 48 = .ok (.ifCond .eq 14, 3) := by decide +kernel
theorem dX8_run_51 : decode cX8_run 51 = .ok (.aload_n 0, 1) := by decide +kernel
theorem dX8_run_52 : decode cX8_run 52 = .ok (.invokevirtual 170, 3) := by decide +kernel
theorem dX8_run_55 : decode cX8_run 55 = .ok (.ifCond .eq 7, 3) := by decide +kernel
theorem dX8_run_58 : decode cX8_run 58 = .ok (.iconst 1, 1) := by decide +kernel
theorem dX8_run_59 : decode cX8_run 59 = .ok (.goto 4, 3) := by decide +kernel
theorem dX8_run_62 : decode cX8_run 62 = .ok (.iconst 0, 1) := by decide +kernel
theorem dX8_run_63 : decode cX8_run 63 = .ok (.istore_n 3, 1) := by decide +kernel
theorem dX8_run_64 : decode cX8_run 64 = .ok (.iload_n 2, 1) := by decide +kernel
theorem dX8_run_65 : decode cX8_run 65 = .ok (.iload_n 3, 1) := by decide +kernel
theorem dX8_run_66 : decode cX8_run 66 = .ok (.ifCond .eq 7, 3) := by decide +kernel
theorem dX8_run_69 : decode cX8_run 69 = .ok (.iconst 1, 1) := by decide +kernel
theorem dX8_run_70 : decode cX8_run 70 = .ok (.goto 4, 3) := by decide +kernel
theorem dX8_run_73 : decode cX8_run 73 = .ok (.iconst 0, 1) := by decide +kernel
theorem dX8_run_74 : decode cX8_run 74 = .ok (.iadd, 1) := by decide +kernel
theorem dX8_run_75 : decode cX8_run 75 = .ok (.istore_n 2, 1) := by decide +kernel
theorem dX8_run_76 : decode cX8_run 76 = .ok (.aload_n 0, 1) := by decide +kernel
theorem dX8_run_77 : decode cX8_run 77 = .ok (.dup, 1) := by decide +kernel
theorem dX8_run_78 : decode cX8_run 78 = .ok (.getfield 137, 3) := by decide +kernel
theorem dX8_run_81 : decode cX8_run 81 = .ok (.iconst 1, 1) := by decide +kernel
theorem dX8_run_82 : decode cX8_run 82 = .ok (.iadd, 1) := by decide +kernel
theorem dX8_run_83 : decode cX8_run 83 = .ok (.putfield 137, 3) := by decide +kernel
theorem dX8_run_86 : decode cX8_run 86 = .ok (.goto (-57), 3) := by decide +kernel
theorem dX8_run_89 : decode cX8_run 89 = .ok (.iload_n 2, 1) := by decide +kernel
theorem dX8_run_90 : decode cX8_run 90 = .ok (.ireturn, 1) := by decide +kernel
theorem dX8_commit_0 : decode cX8_commit 0 = .ok (.iload_n 1, 1) := by decide +kernel
theorem dX8_commit_1 : decode cX8_commit 1 = .ok (.iconst 0, 1) := by decide +kernel
theorem dX8_commit_2 : decode cX8_commit 2 = .ok (.aload_n 0, 1) := by decide +kernel
theorem dX8_commit_3 : decode cX8_commit 3 = .ok (.getfield 7, 3) := by decide +kernel
theorem dX8_commit_6 : decode cX8_commit 6 = .ok (.bipush 6, 2) := by decide +kernel
theorem dX8_commit_8 : decode cX8_commit 8 = .ok (.iaload, 1) := by decide +kernel
theorem dX8_commit_9 : decode cX8_commit 9 = .ok (.iconst 1, 1) := by decide +kernel
theorem dX8_commit_10 : decode cX8_commit 10 = .ok (.isub, 1) := by decide +kernel
theorem dX8_commit_11 : decode cX8_commit 11 = .ok (.invokestatic 25, 3) := by decide +kernel
theorem dX8_commit_14 : decode cX8_commit 14 = .ok (.ifCond .ne 5, 3) := by decide +kernel
theorem dX8_commit_17 : decode cX8_commit 17 = .ok (.iconst (-1), 1) := by decide +kernel
theorem dX8_commit_18 : decode cX8_commit 18 = .ok (.ireturn, 1) := by decide +kernel
theorem dX8_commit_19 : decode cX8_commit 19 = .ok (.iload_n 2, 1) := by decide +kernel
theorem dX8_commit_20 : decode cX8_commit 20 = .ok (.iconst 0, 1) := by decide +kernel
theorem dX8_commit_21 : decode cX8_commit 21 = .ok (.bipush 6, 2) := by decide +kernel
theorem dX8_commit_23 : decode cX8_commit 23 = .ok (.invokestatic 25, 3) := by decide +kernel
theorem dX8_commit_26 : decode cX8_commit 26 = .ok (.ifCond .eq 12, 3) := by decide +kernel
theorem dX8_commit_29 : decode cX8_commit 29 = .ok (.aload_n 0, 1) := by decide +kernel
theorem dX8_commit_30 : decode cX8_commit 30 = .ok (.iload_n 1, 1) := by decide +kernel
theorem dX8_commit_31 : decode cX8_commit 31 = .ok (.iload_n 2, 1) := by decide +kernel
theorem dX8_commit_32 : decode cX8_commit 32 = .ok (.invokevirtual 40, 3) := by decide +kernel
theorem dX8_commit_35 : decode cX8_commit 35 = .ok (.goto 5, 3) := by decide +kernel
theorem dX8_commit_38 : decode cX8_commit 38 = .ok (.bipush (-2), 2) := by decide +kernel
theorem dX8_commit_40 : decode cX8_commit 40 = .ok (.ireturn, 1) := by decide +kernel
theorem dX8_tellsGroup_0 : decode cX8_tellsGroup 0 = .ok (.aload_n 0, 1) := by decide +kernel
theorem dX8_tellsGroup_1 : decode cX8_tellsGroup 1 = .ok (.iload_n 1, 1) := by decide +kernel
theorem dX8_tellsGroup_2 : decode cX8_tellsGroup 2 = .ok (.iconst 0, 1) := by decide +kernel
theorem dX8_tellsGroup_3 : decode cX8_tellsGroup 3 = .ok (.invokevirtual 52, 3) := by decide +kernel
theorem dX8_tellsGroup_6 : decode cX8_tellsGroup 6 = .ok (.iconst 1, 1) := by decide +kernel
theorem dX8_tellsGroup_7 : decode cX8_tellsGroup 7 = .ok (.if_icmp .ne 7, 3) := by decide +kernel
theorem dX8_tellsGroup_10 : decode cX8_tellsGroup 10 = .ok (.iconst 1, 1) := by decide +kernel
theorem dX8_tellsGroup_11 : decode cX8_tellsGroup 11 = .ok (.goto 4, 3) := by decide +kernel
theorem dX8_tellsGroup_14 : decode cX8_tellsGroup 14 = .ok (.iconst 0, 1) := by decide +kernel
theorem dX8_tellsGroup_15 : decode cX8_tellsGroup 15 = .ok (.istore_n 3, 1) := by decide +kernel
theorem dX8_tellsGroup_16 : decode cX8_tellsGroup 16 = .ok (.iload_n 2, 1) := by decide +kernel
theorem dX8_tellsGroup_17 : decode cX8_tellsGroup 17 = .ok (.tableswitch 102 0 5 #[39, 46, 52, 58, 79, 95], 39) := by decide +kernel
theorem dX8_tellsGroup_56 : decode cX8_tellsGroup 56 = .ok (.aload_n 0, 1) := by decide +kernel
theorem dX8_tellsGroup_57 : decode cX8_tellsGroup 57 = .ok (.iload_n 1, 1) := by decide +kernel
theorem dX8_tellsGroup_58 : decode cX8_tellsGroup 58 = .ok (.iconst 0, 1) := by decide +kernel
theorem dX8_tellsGroup_59 : decode cX8_tellsGroup 59 = .ok (.invokevirtual 52, 3) := by decide +kernel
theorem dX8_tellsGroup_62 : decode cX8_tellsGroup 62 = .ok (.ireturn, 1) := by decide +kernel
theorem dX8_tellsGroup_63 : decode cX8_tellsGroup 63 = .ok (.aload_n 0, 1) := by decide +kernel
theorem dX8_tellsGroup_64 : decode cX8_tellsGroup 64 = .ok (.iload_n 1, 1) := by decide +kernel
theorem dX8_tellsGroup_65 : decode cX8_tellsGroup 65 = .ok (.invokevirtual 68, 3) := by decide +kernel
theorem dX8_tellsGroup_68 : decode cX8_tellsGroup 68 = .ok (.ireturn, 1) := by decide +kernel
theorem dX8_tellsGroup_69 : decode cX8_tellsGroup 69 = .ok (.aload_n 0, 1) := by decide +kernel
theorem dX8_tellsGroup_70 : decode cX8_tellsGroup 70 = .ok (.iload_n 1, 1) := by decide +kernel
theorem dX8_tellsGroup_71 : decode cX8_tellsGroup 71 = .ok (.invokevirtual 62, 3) := by decide +kernel
theorem dX8_tellsGroup_74 : decode cX8_tellsGroup 74 = .ok (.ireturn, 1) := by decide +kernel
theorem dX8_tellsGroup_75 : decode cX8_tellsGroup 75 = .ok (.iload_n 3, 1) := by decide +kernel
theorem dX8_tellsGroup_76 : decode cX8_tellsGroup 76 = .ok (.ifCond .eq 17, 3) := by decide +kernel
theorem dX8_tellsGroup_79 : decode cX8_tellsGroup 79 = .ok (.aload_n 0, 1) := by decide +kernel
theorem dX8_tellsGroup_80 : decode cX8_tellsGroup 80 = .ok (.aload_n 0, 1) := by decide +kernel
theorem dX8_tellsGroup_81 : decode cX8_tellsGroup 81 = .ok (.iload_n 1, 1) := by decide +kernel
theorem dX8_tellsGroup_82 : decode cX8_tellsGroup 82 = .ok (.iconst 0, 1) := by decide +kernel
theorem dX8_tellsGroup_83 : decode cX8_tellsGroup 83 = .ok (.invokevirtual 89, 3) := by decide +kernel
theorem dX8_tellsGroup_86 : decode cX8_tellsGroup 86 = .ok (.iconst 0, 1) := by decide +kernel
theorem dX8_tellsGroup_87 : decode cX8_tellsGroup 87 = .ok (.invokevirtual 40, 3) := by decide +kernel
theorem dX8_tellsGroup_90 : decode cX8_tellsGroup 90 = .ok (.goto 5, 3) := by decide +kernel
theorem dX8_tellsGroup_93 : decode cX8_tellsGroup 93 = .ok (.bipush (-5), 2) := by decide +kernel
theorem dX8_tellsGroup_95 : decode cX8_tellsGroup 95 = .ok (.ireturn, 1) := by decide +kernel
theorem dX8_tellsGroup_96 : decode cX8_tellsGroup 96 = .ok (.iload_n 3, 1) := by decide +kernel
theorem dX8_tellsGroup_97 : decode cX8_tellsGroup 97 = .ok (.ifCond .eq 12, 3) := by decide +kernel
theorem dX8_tellsGroup_100 : decode cX8_tellsGroup 100 = .ok (.aload_n 0, 1) := by decide +kernel
theorem dX8_tellsGroup_101 : decode cX8_tellsGroup 101 = .ok (.iload_n 1, 1) := by decide +kernel
theorem dX8_tellsGroup_102 : decode cX8_tellsGroup 102 = .ok (.iconst 1, 1) := by decide +kernel
theorem dX8_tellsGroup_103 : decode cX8_tellsGroup 103 = .ok (.invokevirtual 52, 3) := by decide +kernel
theorem dX8_tellsGroup_106 : decode cX8_tellsGroup 106 = .ok (.goto 5, 3) := by decide +kernel
theorem dX8_tellsGroup_109 : decode cX8_tellsGroup 109 = .ok (.bipush (-5), 2) := by decide +kernel
theorem dX8_tellsGroup_111 : decode cX8_tellsGroup 111 = .ok (.ireturn, 1) := by decide +kernel
theorem dX8_tellsGroup_112 : decode cX8_tellsGroup 112 = .ok (.aload_n 0, 1) := by decide +kernel
theorem dX8_tellsGroup_113 : decode cX8_tellsGroup 113 = .ok (.iload_n 1, 1) := by decide +kernel
theorem dX8_tellsGroup_114 : decode cX8_tellsGroup 114 = .ok (.iconst 2, 1) := by decide +kernel
theorem dX8_tellsGroup_115 : decode cX8_tellsGroup 115 = .ok (.invokevirtual 52, 3) := by decide +kernel
theorem dX8_tellsGroup_118 : decode cX8_tellsGroup 118 = .ok (.ireturn, 1) := by decide +kernel
theorem dX8_tellsGroup_119 : decode cX8_tellsGroup 119 = .ok (.aload_n 0, 1) := by decide +kernel
theorem dX8_tellsGroup_120 : decode cX8_tellsGroup 120 = .ok (.iload_n 1, 1) := by decide +kernel
theorem dX8_tellsGroup_121 : decode cX8_tellsGroup 121 = .ok (.iconst 0, 1) := by decide +kernel
theorem dX8_tellsGroup_122 : decode cX8_tellsGroup 122 = .ok (.invokevirtual 52, 3) := by decide +kernel
theorem dX8_tellsGroup_125 : decode cX8_tellsGroup 125 = .ok (.iconst 3, 1) := by decide +kernel
theorem dX8_tellsGroup_126 : decode cX8_tellsGroup 126 = .ok (.if_icmp .ne 12, 3) := by decide +kernel
theorem dX8_tellsGroup_129 : decode cX8_tellsGroup 129 = .ok (.aload_n 0, 1) := by decide +kernel
theorem dX8_tellsGroup_130 : decode cX8_tellsGroup 130 = .ok (.iload_n 1, 1) := by decide +kernel
theorem dX8_tellsGroup_131 : decode cX8_tellsGroup 131 = .ok (.iconst 3, 1) := by decide +kernel
theorem dX8_tellsGroup_132 : decode cX8_tellsGroup 132 = .ok (.invokevirtual 52, 3) := by decide +kernel
theorem dX8_tellsGroup_135 : decode cX8_tellsGroup 135 = .ok (.goto 5, 3) := by decide +kernel
theorem dX8_tellsGroup_138 : decode cX8_tellsGroup 138 = .ok (.bipush (-5), 2) := by decide +kernel
theorem dX8_tellsGroup_140 : decode cX8_tellsGroup 140 = .ok (.ireturn, 1) := by decide +kernel
theorem dX8_group_0 : decode cX8_group 0 = .ok (.iload_n 1, 1) := by decide +kernel
theorem dX8_group_1 : decode cX8_group 1 = .ok (.iconst 0, 1) := by decide +kernel
theorem dX8_group_2 : decode cX8_group 2 = .ok (.aload_n 0, 1) := by decide +kernel
theorem dX8_group_3 : decode cX8_group 3 = .ok (.getfield 7, 3) := by decide +kernel
theorem dX8_group_6 : decode cX8_group 6 = .ok (.bipush 7, 2) := by decide +kernel
theorem dX8_group_8 : decode cX8_group 8 = .ok (.iaload, 1) := by decide +kernel
theorem dX8_group_9 : decode cX8_group 9 = .ok (.iconst 1, 1) := by decide +kernel
theorem dX8_group_10 : decode cX8_group 10 = .ok (.isub, 1) := by decide +kernel
theorem dX8_group_11 : decode cX8_group 11 = .ok (.invokestatic 25, 3) := by decide +kernel
theorem dX8_group_14 : decode cX8_group 14 = .ok (.ifCond .ne 5, 3) := by decide +kernel
theorem dX8_group_17 : decode cX8_group 17 = .ok (.iconst (-1), 1) := by decide +kernel
theorem dX8_group_18 : decode cX8_group 18 = .ok (.ireturn, 1) := by decide +kernel
theorem dX8_group_19 : decode cX8_group 19 = .ok (.iload_n 2, 1) := by decide +kernel
theorem dX8_group_20 : decode cX8_group 20 = .ok (.iconst 0, 1) := by decide +kernel
theorem dX8_group_21 : decode cX8_group 21 = .ok (.bipush 6, 2) := by decide +kernel
theorem dX8_group_23 : decode cX8_group 23 = .ok (.invokestatic 25, 3) := by decide +kernel
theorem dX8_group_26 : decode cX8_group 26 = .ok (.ifCond .eq 12, 3) := by decide +kernel
theorem dX8_group_29 : decode cX8_group 29 = .ok (.aload_n 0, 1) := by decide +kernel
theorem dX8_group_30 : decode cX8_group 30 = .ok (.iload_n 1, 1) := by decide +kernel
theorem dX8_group_31 : decode cX8_group 31 = .ok (.iload_n 2, 1) := by decide +kernel
theorem dX8_group_32 : decode cX8_group 32 = .ok (.invokevirtual 173, 3) := by decide +kernel
theorem dX8_group_35 : decode cX8_group 35 = .ok (.goto 5, 3) := by decide +kernel
theorem dX8_group_38 : decode cX8_group 38 = .ok (.bipush (-2), 2) := by decide +kernel
theorem dX8_group_40 : decode cX8_group 40 = .ok (.ireturn, 1) := by decide +kernel
theorem dX8_member_0 : decode cX8_member 0 = .ok (.iload_n 1, 1) := by decide +kernel
theorem dX8_member_1 : decode cX8_member 1 = .ok (.iconst 0, 1) := by decide +kernel
theorem dX8_member_2 : decode cX8_member 2 = .ok (.aload_n 0, 1) := by decide +kernel
theorem dX8_member_3 : decode cX8_member 3 = .ok (.getfield 7, 3) := by decide +kernel
theorem dX8_member_6 : decode cX8_member 6 = .ok (.bipush 7, 2) := by decide +kernel
theorem dX8_member_8 : decode cX8_member 8 = .ok (.iaload, 1) := by decide +kernel
theorem dX8_member_9 : decode cX8_member 9 = .ok (.iconst 1, 1) := by decide +kernel
theorem dX8_member_10 : decode cX8_member 10 = .ok (.isub, 1) := by decide +kernel
theorem dX8_member_11 : decode cX8_member 11 = .ok (.invokestatic 25, 3) := by decide +kernel
theorem dX8_member_14 : decode cX8_member 14 = .ok (.ifCond .ne 5, 3) := by decide +kernel
theorem dX8_member_17 : decode cX8_member 17 = .ok (.iconst (-1), 1) := by decide +kernel
theorem dX8_member_18 : decode cX8_member 18 = .ok (.ireturn, 1) := by decide +kernel
theorem dX8_member_19 : decode cX8_member 19 = .ok (.iload_n 2, 1) := by decide +kernel
theorem dX8_member_20 : decode cX8_member 20 = .ok (.ifCond .ge 8, 3) := by decide +kernel
theorem dX8_member_23 : decode cX8_member 23 = .ok (.bipush (-2), 2) := by decide +kernel
theorem dX8_member_25 : decode cX8_member 25 = .ok (.goto 9, 3) := by decide +kernel
theorem dX8_member_28 : decode cX8_member 28 = .ok (.aload_n 0, 1) := by decide +kernel
theorem dX8_member_29 : decode cX8_member 29 = .ok (.iload_n 1, 1) := by decide +kernel
theorem dX8_member_30 : decode cX8_member 30 = .ok (.iload_n 2, 1) := by decide +kernel
theorem dX8_member_31 : decode cX8_member 31 = .ok (.invokevirtual 89, 3) := by decide +kernel
theorem dX8_member_34 : decode cX8_member 34 = .ok (.ireturn, 1) := by decide +kernel
theorem dX8_open_0 : decode cX8_open 0 = .ok (.iload_n 1, 1) := by decide +kernel
theorem dX8_open_1 : decode cX8_open 1 = .ok (.invokestatic 92, 3) := by decide +kernel
theorem dX8_open_4 : decode cX8_open 4 = .ok (.ifCond .eq 11, 3) := by decide +kernel
theorem dX8_open_7 : decode cX8_open 7 = .ok (.aload_n 0, 1) := by decide +kernel
theorem dX8_open_8 : decode cX8_open 8 = .ok (.iload_n 1, 1) := by decide +kernel
theorem dX8_open_9 : decode cX8_open 9 = .ok (.invokevirtual 96, 3) := by decide +kernel
theorem dX8_open_12 : decode cX8_open 12 = .ok (.goto 4, 3) := by decide +kernel
theorem dX8_open_15 : decode cX8_open 15 = .ok (.iconst (-1), 1) := by decide +kernel
theorem dX8_open_16 : decode cX8_open 16 = .ok (.ireturn, 1) := by decide +kernel
theorem dX8_queued_0 : decode cX8_queued 0 = .ok (.iload_n 1, 1) := by decide +kernel
theorem dX8_queued_1 : decode cX8_queued 1 = .ok (.ifCond .ge 8, 3) := by decide +kernel
theorem dX8_queued_4 : decode cX8_queued 4 = .ok (.bipush (-2), 2) := by decide +kernel
theorem dX8_queued_6 : decode cX8_queued 6 = .ok (.goto 8, 3) := by decide +kernel
theorem dX8_queued_9 : decode cX8_queued 9 = .ok (.aload_n 0, 1) := by decide +kernel
theorem dX8_queued_10 : decode cX8_queued 10 = .ok (.iload_n 1, 1) := by decide +kernel
theorem dX8_queued_11 : decode cX8_queued 11 = .ok (.invokevirtual 55, 3) := by decide +kernel
theorem dX8_queued_14 : decode cX8_queued 14 = .ok (.ireturn, 1) := by decide +kernel
theorem dX8_queuedMany_0 : decode cX8_queuedMany 0 = .ok (.iconst 0, 1) := by decide +kernel
theorem dX8_queuedMany_1 : decode cX8_queuedMany 1 = .ok (.istore_n 1, 1) := by decide +kernel
theorem dX8_queuedMany_2 : decode cX8_queuedMany 2 = .ok (.iconst 0, 1) := by decide +kernel
theorem dX8_queuedMany_3 : decode cX8_queuedMany 3 = .ok (.istore_n 2, 1) := by decide +kernel
theorem dX8_queuedMany_4 : decode cX8_queuedMany 4 = .ok (.iload_n 2, 1) := by decide +kernel
theorem dX8_queuedMany_5 : decode cX8_queuedMany 5 = .ok (.aload_n 0, 1) := by decide +kernel
theorem dX8_queuedMany_6 : decode cX8_queuedMany 6 = .ok (.getfield 7, 3) := by decide +kernel
theorem dX8_queuedMany_9 : decode cX8_queuedMany 9 = .ok (.bipush 7, 2) := by decide +kernel
theorem dX8_queuedMany_11 : decode cX8_queuedMany 11 = .ok (.iaload, 1) := by decide +kernel
theorem dX8_queuedMany_12 : decode cX8_queuedMany 12 = .ok (.if_icmp .ge 27, 3) := by decide +kernel
theorem dX8_queuedMany_15 : decode cX8_queuedMany 15 = .ok (.iload_n 1, 1) := by decide +kernel
theorem dX8_queuedMany_16 : decode cX8_queuedMany 16 = .ok (.aload_n 0, 1) := by decide +kernel
theorem dX8_queuedMany_17 : decode cX8_queuedMany 17 = .ok (.iload_n 2, 1) := by decide +kernel
theorem dX8_queuedMany_18 : decode cX8_queuedMany 18 = .ok (.iconst 0, 1) := by decide +kernel
theorem dX8_queuedMany_19 : decode cX8_queuedMany 19 = .ok (.invokevirtual 52, 3) := by decide +kernel
theorem dX8_queuedMany_22 : decode cX8_queuedMany 22 = .ok (.iconst 2, 1) := by decide +kernel
theorem dX8_queuedMany_23 : decode cX8_queuedMany 23 = .ok (.if_icmp .ne 7, 3) := by decide +kernel
theorem dX8_queuedMany_26 : decode cX8_queuedMany 26 = .ok (.iconst 1, 1) := by decide +kernel
theorem dX8_queuedMany_27 : decode cX8_queuedMany 27 = .ok (.goto 4, 3) := by decide +kernel
theorem dX8_queuedMany_30 : decode cX8_queuedMany 30 = .ok (.iconst 0, 1) := by decide +kernel
theorem dX8_queuedMany_31 : decode cX8_queuedMany 31 = .ok (.iadd, 1) := by decide +kernel
theorem dX8_queuedMany_32 : decode cX8_queuedMany 32 = .ok (.istore_n 1, 1) := by decide +kernel
theorem dX8_queuedMany_33 : decode cX8_queuedMany 33 = .ok (.iinc 2 1, 3) := by decide +kernel
theorem dX8_queuedMany_36 : decode cX8_queuedMany 36 = .ok (.goto (-32), 3) := by decide +kernel
theorem dX8_queuedMany_39 : decode cX8_queuedMany 39 = .ok (.iload_n 1, 1) := by decide +kernel
theorem dX8_queuedMany_40 : decode cX8_queuedMany 40 = .ok (.ireturn, 1) := by decide +kernel
theorem dX8_busyMany_0 : decode cX8_busyMany 0 = .ok (.iconst 0, 1) := by decide +kernel
theorem dX8_busyMany_1 : decode cX8_busyMany 1 = .ok (.istore_n 1, 1) := by decide +kernel
theorem dX8_busyMany_2 : decode cX8_busyMany 2 = .ok (.iconst 0, 1) := by decide +kernel
theorem dX8_busyMany_3 : decode cX8_busyMany 3 = .ok (.istore_n 2, 1) := by decide +kernel
theorem dX8_busyMany_4 : decode cX8_busyMany 4 = .ok (.iload_n 2, 1) := by decide +kernel
theorem dX8_busyMany_5 : decode cX8_busyMany 5 = .ok (.aload_n 0, 1) := by decide +kernel
theorem dX8_busyMany_6 : decode cX8_busyMany 6 = .ok (.getfield 7, 3) := by decide +kernel
theorem dX8_busyMany_9 : decode cX8_busyMany 9 = .ok (.bipush 6, 2) := by decide +kernel
theorem dX8_busyMany_11 : decode cX8_busyMany 11 = .ok (.iaload, 1) := by decide +kernel
theorem dX8_busyMany_12 : decode cX8_busyMany 12 = .ok (.if_icmp .ge 27, 3) := by decide +kernel
theorem dX8_busyMany_15 : decode cX8_busyMany 15 = .ok (.iload_n 1, 1) := by decide +kernel
theorem dX8_busyMany_16 : decode cX8_busyMany 16 = .ok (.aload_n 0, 1) := by decide +kernel
theorem dX8_busyMany_17 : decode cX8_busyMany 17 = .ok (.iload_n 2, 1) := by decide +kernel
theorem dX8_busyMany_18 : decode cX8_busyMany 18 = .ok (.iconst 3, 1) := by decide +kernel
theorem dX8_busyMany_19 : decode cX8_busyMany 19 = .ok (.invokevirtual 40, 3) := by decide +kernel
theorem dX8_busyMany_22 : decode cX8_busyMany 22 = .ok (.iconst 4, 1) := by decide +kernel
theorem dX8_busyMany_23 : decode cX8_busyMany 23 = .ok (.if_icmp .ge 7, 3) := by decide +kernel
theorem dX8_busyMany_26 : decode cX8_busyMany 26 = .ok (.iconst 1, 1) := by decide +kernel
theorem dX8_busyMany_27 : decode cX8_busyMany 27 = .ok (.goto 4, 3) := by decide +kernel
theorem dX8_busyMany_30 : decode cX8_busyMany 30 = .ok (.iconst 0, 1) := by decide +kernel
theorem dX8_busyMany_31 : decode cX8_busyMany 31 = .ok (.iadd, 1) := by decide +kernel
theorem dX8_busyMany_32 : decode cX8_busyMany 32 = .ok (.istore_n 1, 1) := by decide +kernel
theorem dX8_busyMany_33 : decode cX8_busyMany 33 = .ok (.iinc 2 1, 3) := by decide +kernel
theorem dX8_busyMany_36 : decode cX8_busyMany 36 = .ok (.goto (-32), 3) := by decide +kernel
theorem dX8_busyMany_39 : decode cX8_busyMany 39 = .ok (.iload_n 1, 1) := by decide +kernel
theorem dX8_busyMany_40 : decode cX8_busyMany 40 = .ok (.ireturn, 1) := by decide +kernel
theorem dX8_count_0 : decode cX8_count 0 = .ok (.iload_n 1, 1) := by decide +kernel
theorem dX8_count_1 : decode cX8_count 1 = .ok (.tableswitch 125 0 11 #[63, 70, 77, 85, 93, 98, 103, 103, 103, 103, 115, 120], 63) := by decide +kernel
theorem dX8_count_64 : decode cX8_count 64 = .ok (.aload_n 0, 1) := by decide +kernel
theorem dX8_count_65 : decode cX8_count 65 = .ok (.getfield 7, 3) := by decide +kernel
theorem dX8_count_68 : decode cX8_count 68 = .ok (.iconst 0, 1) := by decide +kernel
theorem dX8_count_69 : decode cX8_count 69 = .ok (.iaload, 1) := by decide +kernel
theorem dX8_count_70 : decode cX8_count 70 = .ok (.ireturn, 1) := by decide +kernel
theorem dX8_count_71 : decode cX8_count 71 = .ok (.aload_n 0, 1) := by decide +kernel
theorem dX8_count_72 : decode cX8_count 72 = .ok (.getfield 7, 3) := by decide +kernel
theorem dX8_count_75 : decode cX8_count 75 = .ok (.iconst 1, 1) := by decide +kernel
theorem dX8_count_76 : decode cX8_count 76 = .ok (.iaload, 1) := by decide +kernel
theorem dX8_count_77 : decode cX8_count 77 = .ok (.ireturn, 1) := by decide +kernel
theorem dX8_count_78 : decode cX8_count 78 = .ok (.aload_n 0, 1) := by decide +kernel
theorem dX8_count_79 : decode cX8_count 79 = .ok (.getfield 7, 3) := by decide +kernel
theorem dX8_count_82 : decode cX8_count 82 = .ok (.bipush 8, 2) := by decide +kernel
theorem dX8_count_84 : decode cX8_count 84 = .ok (.iaload, 1) := by decide +kernel
theorem dX8_count_85 : decode cX8_count 85 = .ok (.ireturn, 1) := by decide +kernel
theorem dX8_count_86 : decode cX8_count 86 = .ok (.aload_n 0, 1) := by decide +kernel
theorem dX8_count_87 : decode cX8_count 87 = .ok (.getfield 7, 3) := by decide +kernel
theorem dX8_count_90 : decode cX8_count 90 = .ok (.bipush 9, 2) := by decide +kernel
theorem dX8_count_92 : decode cX8_count 92 = .ok (.iaload, 1) := by decide +kernel
theorem dX8_count_93 : decode cX8_count 93 = .ok (.ireturn, 1) := by decide +kernel
theorem dX8_count_94 : decode cX8_count 94 = .ok (.aload_n 0, 1) := by decide +kernel
theorem dX8_count_95 : decode cX8_count 95 = .ok (.invokevirtual 176, 3) := by decide +kernel
theorem dX8_count_98 : decode cX8_count 98 = .ok (.ireturn, 1) := by decide +kernel
theorem dX8_count_99 : decode cX8_count 99 = .ok (.aload_n 0, 1) := by decide +kernel
theorem dX8_count_100 : decode cX8_count 100 = .ok (.invokevirtual 179, 3) := by decide +kernel
theorem dX8_count_103 : decode cX8_count 103 = .ok (.ireturn, 1) := by decide +kernel
theorem dX8_count_104 : decode cX8_count 104 = .ok (.aload_n 0, 1) := by decide +kernel
theorem dX8_count_105 : decode cX8_count 105 = .ok (.getfield 7, 3) := by decide +kernel
theorem dX8_count_108 : decode cX8_count 108 = .ok (.iconst 2, 1) := by decide +kernel
theorem dX8_count_109 : decode cX8_count 109 = .ok (.iload_n 1, 1) := by decide +kernel
theorem dX8_count_110 : decode cX8_count 110 = .ok (.iadd, 1) := by decide +kernel
theorem dX8_count_111 : decode cX8_count 111 = .ok (.bipush 6, 2) := by decide +kernel
theorem dX8_count_113 : decode cX8_count 113 = .ok (.isub, 1) := by decide +kernel
theorem dX8_count_114 : decode cX8_count 114 = .ok (.iaload, 1) := by decide +kernel
theorem dX8_count_115 : decode cX8_count 115 = .ok (.ireturn, 1) := by decide +kernel
theorem dX8_count_116 : decode cX8_count 116 = .ok (.aload_n 0, 1) := by decide +kernel
theorem dX8_count_117 : decode cX8_count 117 = .ok (.getfield 29, 3) := by decide +kernel
theorem dX8_count_120 : decode cX8_count 120 = .ok (.ireturn, 1) := by decide +kernel
theorem dX8_count_121 : decode cX8_count 121 = .ok (.aload_n 0, 1) := by decide +kernel
theorem dX8_count_122 : decode cX8_count 122 = .ok (.getfield 134, 3) := by decide +kernel
theorem dX8_count_125 : decode cX8_count 125 = .ok (.ireturn, 1) := by decide +kernel
theorem dX8_count_126 : decode cX8_count 126 = .ok (.bipush (-2), 2) := by decide +kernel
theorem dX8_count_128 : decode cX8_count 128 = .ok (.ireturn, 1) := by decide +kernel
theorem dX8_total_0 : decode cX8_total 0 = .ok (.iload_n 1, 1) := by decide +kernel
theorem dX8_total_1 : decode cX8_total 1 = .ok (.tableswitch 87 0 7 #[47, 55, 55, 55, 67, 75, 75, 75], 47) := by decide +kernel
theorem dX8_total_48 : decode cX8_total 48 = .ok (.aload_n 0, 1) := by decide +kernel
theorem dX8_total_49 : decode cX8_total 49 = .ok (.getfield 7, 3) := by decide +kernel
theorem dX8_total_52 : decode cX8_total 52 = .ok (.bipush 6, 2) := by decide +kernel
theorem dX8_total_54 : decode cX8_total 54 = .ok (.iaload, 1) := by decide +kernel
theorem dX8_total_55 : decode cX8_total 55 = .ok (.ireturn, 1) := by decide +kernel
theorem dX8_total_56 : decode cX8_total 56 = .ok (.aload_n 0, 1) := by decide +kernel
theorem dX8_total_57 : decode cX8_total 57 = .ok (.getfield 7, 3) := by decide +kernel
theorem dX8_total_60 : decode cX8_total 60 = .ok (.bipush 10, 2) := by decide +kernel
theorem dX8_total_62 : decode cX8_total 62 = .ok (.iload_n 1, 1) := by decide +kernel
theorem dX8_total_63 : decode cX8_total 63 = .ok (.iadd, 1) := by decide +kernel
theorem dX8_total_64 : decode cX8_total 64 = .ok (.iconst 1, 1) := by decide +kernel
theorem dX8_total_65 : decode cX8_total 65 = .ok (.isub, 1) := by decide +kernel
theorem dX8_total_66 : decode cX8_total 66 = .ok (.iaload, 1) := by decide +kernel
theorem dX8_total_67 : decode cX8_total 67 = .ok (.ireturn, 1) := by decide +kernel
theorem dX8_total_68 : decode cX8_total 68 = .ok (.aload_n 0, 1) := by decide +kernel
theorem dX8_total_69 : decode cX8_total 69 = .ok (.getfield 7, 3) := by decide +kernel
theorem dX8_total_72 : decode cX8_total 72 = .ok (.bipush 7, 2) := by decide +kernel
theorem dX8_total_74 : decode cX8_total 74 = .ok (.iaload, 1) := by decide +kernel
theorem dX8_total_75 : decode cX8_total 75 = .ok (.ireturn, 1) := by decide +kernel
theorem dX8_total_76 : decode cX8_total 76 = .ok (.aload_n 0, 1) := by decide +kernel
theorem dX8_total_77 : decode cX8_total 77 = .ok (.getfield 7, 3) := by decide +kernel
theorem dX8_total_80 : decode cX8_total 80 = .ok (.bipush 13, 2) := by decide +kernel
theorem dX8_total_82 : decode cX8_total 82 = .ok (.iload_n 1, 1) := by decide +kernel
theorem dX8_total_83 : decode cX8_total 83 = .ok (.iadd, 1) := by decide +kernel
theorem dX8_total_84 : decode cX8_total 84 = .ok (.iconst 5, 1) := by decide +kernel
theorem dX8_total_85 : decode cX8_total 85 = .ok (.isub, 1) := by decide +kernel
theorem dX8_total_86 : decode cX8_total 86 = .ok (.iaload, 1) := by decide +kernel
theorem dX8_total_87 : decode cX8_total 87 = .ok (.ireturn, 1) := by decide +kernel
theorem dX8_total_88 : decode cX8_total 88 = .ok (.bipush (-2), 2) := by decide +kernel
theorem dX8_total_90 : decode cX8_total 90 = .ok (.ireturn, 1) := by decide +kernel
theorem dX8_ticksFor_0 : decode cX8_ticksFor 0 = .ok (.iconst 0, 1) := by decide +kernel
theorem dX8_ticksFor_1 : decode cX8_ticksFor 1 = .ok (.istore_n 2, 1) := by decide +kernel
theorem dX8_ticksFor_2 : decode cX8_ticksFor 2 = .ok (.aload_n 0, 1) := by decide +kernel
theorem dX8_ticksFor_3 : decode cX8_ticksFor 3 = .ok (.iload_n 1, 1) := by decide +kernel
theorem dX8_ticksFor_4 : decode cX8_ticksFor 4 = .ok (.iconst 3, 1) := by decide +kernel
theorem dX8_ticksFor_5 : decode cX8_ticksFor 5 = .ok (.invokevirtual 40, 3) := by decide +kernel
theorem dX8_ticksFor_8 : decode cX8_ticksFor 8 = .ok (.iconst 4, 1) := by decide +kernel
theorem dX8_ticksFor_9 : decode cX8_ticksFor 9 = .ok (.if_icmp .ge 14, 3) := by decide +kernel
theorem dX8_ticksFor_12 : decode cX8_ticksFor 12 = .ok (.aload_n 0, 1) := by decide +kernel
theorem dX8_ticksFor_13 : decode cX8_ticksFor 13 = .ok (.invokevirtual 85, 3) := by decide +kernel
theorem dX8_ticksFor_16 : decode cX8_ticksFor 16 = .ok (.pop, 1) := by decide +kernel
theorem dX8_ticksFor_17 : decode cX8_ticksFor 17 = .ok (.iinc 2 1, 3) := by decide +kernel
theorem dX8_ticksFor_20 : decode cX8_ticksFor 20 = .ok (.goto (-18), 3) := by decide +kernel
theorem dX8_ticksFor_23 : decode cX8_ticksFor 23 = .ok (.iload_n 2, 1) := by decide +kernel
theorem dX8_ticksFor_24 : decode cX8_ticksFor 24 = .ok (.ireturn, 1) := by decide +kernel
theorem dX8_answeredIn_0 : decode cX8_answeredIn 0 = .ok (.iload_n 1, 1) := by decide +kernel
theorem dX8_answeredIn_1 : decode cX8_answeredIn 1 = .ok (.invokestatic 92, 3) := by decide +kernel
theorem dX8_answeredIn_4 : decode cX8_answeredIn 4 = .ok (.ifCond .ne 5, 3) := by decide +kernel
theorem dX8_answeredIn_7 : decode cX8_answeredIn 7 = .ok (.iconst (-1), 1) := by decide +kernel
theorem dX8_answeredIn_8 : decode cX8_answeredIn 8 = .ok (.ireturn, 1) := by decide +kernel
theorem dX8_answeredIn_9 : decode cX8_answeredIn 9 = .ok (.aload_n 0, 1) := by decide +kernel
theorem dX8_answeredIn_10 : decode cX8_answeredIn 10 = .ok (.iload_n 1, 1) := by decide +kernel
theorem dX8_answeredIn_11 : decode cX8_answeredIn 11 = .ok (.invokevirtual 96, 3) := by decide +kernel
theorem dX8_answeredIn_14 : decode cX8_answeredIn 14 = .ok (.istore_n 2, 1) := by decide +kernel
theorem dX8_answeredIn_15 : decode cX8_answeredIn 15 = .ok (.iload_n 2, 1) := by decide +kernel
theorem dX8_answeredIn_16 : decode cX8_answeredIn 16 = .ok (.bipush (-5), 2) := by decide +kernel
theorem dX8_answeredIn_18 : decode cX8_answeredIn 18 = .ok (.if_icmp .ne 6, 3) := by decide +kernel
theorem dX8_answeredIn_21 : decode cX8_answeredIn 21 = .ok (.bipush (-5), 2) := by decide +kernel
theorem dX8_answeredIn_23 : decode cX8_answeredIn 23 = .ok (.ireturn, 1) := by decide +kernel
theorem dX8_answeredIn_24 : decode cX8_answeredIn 24 = .ok (.aload_n 0, 1) := by decide +kernel
theorem dX8_answeredIn_25 : decode cX8_answeredIn 25 = .ok (.invokevirtual 182, 3) := by decide +kernel
theorem dX8_answeredIn_28 : decode cX8_answeredIn 28 = .ok (.aload_n 0, 1) := by decide +kernel
theorem dX8_answeredIn_29 : decode cX8_answeredIn 29 = .ok (.iload_n 2, 1) := by decide +kernel
theorem dX8_answeredIn_30 : decode cX8_answeredIn 30 = .ok (.invokevirtual 185, 3) := by decide +kernel
theorem dX8_answeredIn_33 : decode cX8_answeredIn 33 = .ok (.istore_n 3, 1) := by decide +kernel
theorem dX8_answeredIn_34 : decode cX8_answeredIn 34 = .ok (.aload_n 0, 1) := by decide +kernel
theorem dX8_answeredIn_35 : decode cX8_answeredIn 35 = .ok (.invokevirtual 188, 3) := by decide +kernel
theorem dX8_answeredIn_38 : decode cX8_answeredIn 38 = .ok (.iload_n 3, 1) := by decide +kernel
theorem dX8_answeredIn_39 : decode cX8_answeredIn 39 = .ok (.ireturn, 1) := by decide +kernel
theorem dX8_lowestFree_0 : decode cX8_lowestFree 0 = .ok (.iconst 0, 1) := by decide +kernel
theorem dX8_lowestFree_1 : decode cX8_lowestFree 1 = .ok (.istore_n 1, 1) := by decide +kernel
theorem dX8_lowestFree_2 : decode cX8_lowestFree 2 = .ok (.iload_n 1, 1) := by decide +kernel
theorem dX8_lowestFree_3 : decode cX8_lowestFree 3 = .ok (.bipush 12, 2) := by decide +kernel
theorem dX8_lowestFree_5 : decode cX8_lowestFree 5 = .ok (.if_icmp .ge 21, 3) := by decide +kernel
theorem dX8_lowestFree_8 : decode cX8_lowestFree 8 = .ok (.aload_n 0, 1) := by decide +kernel
theorem dX8_lowestFree_9 : decode cX8_lowestFree 9 = .ok (.iload_n 1, 1) := by decide +kernel
theorem dX8_lowestFree_10 : decode cX8_lowestFree 10 = .ok (.invokevirtual 96, 3) := by decide +kernel
theorem dX8_lowestFree_13 : decode cX8_lowestFree 13 = .ok (.bipush (-5), 2) := by decide +kernel
theorem dX8_lowestFree_15 : decode cX8_lowestFree 15 = .ok (.if_icmp .ne 5, 3) := by decide +kernel
theorem dX8_lowestFree_18 : decode cX8_lowestFree 18 = .ok (.iload_n 1, 1) := by decide +kernel
theorem dX8_lowestFree_19 : decode cX8_lowestFree 19 = .ok (.ireturn, 1) := by decide +kernel
theorem dX8_lowestFree_20 : decode cX8_lowestFree 20 = .ok (.iinc 1 1, 3) := by decide +kernel
theorem dX8_lowestFree_23 : decode cX8_lowestFree 23 = .ok (.goto (-21), 3) := by decide +kernel
theorem dX8_lowestFree_26 : decode cX8_lowestFree 26 = .ok (.bipush (-5), 2) := by decide +kernel
theorem dX8_lowestFree_28 : decode cX8_lowestFree 28 = .ok (.ireturn, 1) := by decide +kernel
theorem dX8_ifSubmitted_0 : decode cX8_ifSubmitted 0 = .ok (.iload_n 1, 1) := by decide +kernel
theorem dX8_ifSubmitted_1 : decode cX8_ifSubmitted 1 = .ok (.iconst 1, 1) := by decide +kernel
theorem dX8_ifSubmitted_2 : decode cX8_ifSubmitted 2 = .ok (.bipush 8, 2) := by decide +kernel
theorem dX8_ifSubmitted_4 : decode cX8_ifSubmitted 4 = .ok (.invokestatic 25, 3) := by decide +kernel
theorem dX8_ifSubmitted_7 : decode cX8_ifSubmitted 7 = .ok (.ifCond .ne 6, 3) := by decide +kernel
theorem dX8_ifSubmitted_10 : decode cX8_ifSubmitted 10 = .ok (.bipush (-2), 2) := by decide +kernel
theorem dX8_ifSubmitted_12 : decode cX8_ifSubmitted 12 = .ok (.ireturn, 1) := by decide +kernel
theorem dX8_ifSubmitted_13 : decode cX8_ifSubmitted 13 = .ok (.aload_n 0, 1) := by decide +kernel
theorem dX8_ifSubmitted_14 : decode cX8_ifSubmitted 14 = .ok (.getfield 7, 3) := by decide +kernel
theorem dX8_ifSubmitted_17 : decode cX8_ifSubmitted 17 = .ok (.bipush 6, 2) := by decide +kernel
theorem dX8_ifSubmitted_19 : decode cX8_ifSubmitted 19 = .ok (.iaload, 1) := by decide +kernel
theorem dX8_ifSubmitted_20 : decode cX8_ifSubmitted 20 = .ok (.sipush 150, 3) := by decide +kernel
theorem dX8_ifSubmitted_23 : decode cX8_ifSubmitted 23 = .ok (.if_icmp .ne 6, 3) := by decide +kernel
theorem dX8_ifSubmitted_26 : decode cX8_ifSubmitted 26 = .ok (.bipush (-3), 2) := by decide +kernel
theorem dX8_ifSubmitted_28 : decode cX8_ifSubmitted 28 = .ok (.ireturn, 1) := by decide +kernel
theorem dX8_ifSubmitted_29 : decode cX8_ifSubmitted 29 = .ok (.aload_n 0, 1) := by decide +kernel
theorem dX8_ifSubmitted_30 : decode cX8_ifSubmitted 30 = .ok (.invokevirtual 191, 3) := by decide +kernel
theorem dX8_ifSubmitted_33 : decode cX8_ifSubmitted 33 = .ok (.istore_n 3, 1) := by decide +kernel
theorem dX8_ifSubmitted_34 : decode cX8_ifSubmitted 34 = .ok (.iload_n 3, 1) := by decide +kernel
theorem dX8_ifSubmitted_35 : decode cX8_ifSubmitted 35 = .ok (.bipush (-5), 2) := by decide +kernel
theorem dX8_ifSubmitted_37 : decode cX8_ifSubmitted 37 = .ok (.if_icmp .ne 6, 3) := by decide +kernel
theorem dX8_ifSubmitted_40 : decode cX8_ifSubmitted 40 = .ok (.bipush (-4), 2) := by decide +kernel
theorem dX8_ifSubmitted_42 : decode cX8_ifSubmitted 42 = .ok (.ireturn, 1) := by decide +kernel
theorem dX8_ifSubmitted_43 : decode cX8_ifSubmitted 43 = .ok (.aload_n 0, 1) := by decide +kernel
theorem dX8_ifSubmitted_44 : decode cX8_ifSubmitted 44 = .ok (.invokevirtual 182, 3) := by decide +kernel
theorem dX8_ifSubmitted_47 : decode cX8_ifSubmitted 47 = .ok (.aload_n 0, 1) := by decide +kernel
theorem dX8_ifSubmitted_48 : decode cX8_ifSubmitted 48 = .ok (.aload_n 0, 1) := by decide +kernel
theorem dX8_ifSubmitted_49 : decode cX8_ifSubmitted 49 = .ok (.iload_n 3, 1) := by decide +kernel
theorem dX8_ifSubmitted_50 : decode cX8_ifSubmitted 50 = .ok (.iload_n 1, 1) := by decide +kernel
theorem dX8_ifSubmitted_51 : decode cX8_ifSubmitted 51 = .ok (.iload_n 2, 1) := by decide +kernel
theorem dX8_ifSubmitted_52 : decode cX8_ifSubmitted 52 = .ok (.invokevirtual 109, 3) := by decide +kernel
theorem dX8_ifSubmitted_55 : decode cX8_ifSubmitted 55 = .ok (.invokevirtual 185, 3) := by decide +kernel
theorem dX8_ifSubmitted_58 : decode cX8_ifSubmitted 58 = .ok (.istore 4, 2) := by decide +kernel
theorem dX8_ifSubmitted_60 : decode cX8_ifSubmitted 60 = .ok (.aload_n 0, 1) := by decide +kernel
theorem dX8_ifSubmitted_61 : decode cX8_ifSubmitted 61 = .ok (.invokevirtual 188, 3) := by decide +kernel
theorem dX8_ifSubmitted_64 : decode cX8_ifSubmitted 64 = .ok (.iload 4, 2) := by decide +kernel
theorem dX8_ifSubmitted_66 : decode cX8_ifSubmitted 66 = .ok (.ireturn, 1) := by decide +kernel
theorem dX8_idleIn_0 : decode cX8_idleIn 0 = .ok (.aload_n 0, 1) := by decide +kernel
theorem dX8_idleIn_1 : decode cX8_idleIn 1 = .ok (.invokevirtual 182, 3) := by decide +kernel
theorem dX8_idleIn_4 : decode cX8_idleIn 4 = .ok (.iconst 0, 1) := by decide +kernel
theorem dX8_idleIn_5 : decode cX8_idleIn 5 = .ok (.istore_n 1, 1) := by decide +kernel
theorem dX8_idleIn_6 : decode cX8_idleIn 6 = .ok (.aload_n 0, 1) := by decide +kernel
theorem dX8_idleIn_7 : decode cX8_idleIn 7 = .ok (.invokevirtual 179, 3) := by decide +kernel
theorem dX8_idleIn_10 : decode cX8_idleIn 10 = .ok (.ifCond .le 14, 3) := by decide +kernel
theorem dX8_idleIn_13 : decode cX8_idleIn 13 = .ok (.aload_n 0, 1) := by decide +kernel
theorem dX8_idleIn_14 : decode cX8_idleIn 14 = .ok (.invokevirtual 85, 3) := by decide +kernel
theorem dX8_idleIn_17 : decode cX8_idleIn 17 = .ok (.pop, 1) := by decide +kernel
theorem dX8_idleIn_18 : decode cX8_idleIn 18 = .ok (.iinc 1 1, 3) := by decide +kernel
theorem dX8_idleIn_21 : decode cX8_idleIn 21 = .ok (.goto (-15), 3) := by decide +kernel
theorem dX8_idleIn_24 : decode cX8_idleIn 24 = .ok (.aload_n 0, 1) := by decide +kernel
theorem dX8_idleIn_25 : decode cX8_idleIn 25 = .ok (.invokevirtual 188, 3) := by decide +kernel
theorem dX8_idleIn_28 : decode cX8_idleIn 28 = .ok (.iload_n 1, 1) := by decide +kernel
theorem dX8_idleIn_29 : decode cX8_idleIn 29 = .ok (.ireturn, 1) := by decide +kernel
theorem dX8_mean_0 : decode cX8_mean 0 = .ok (.aload_n 0, 1) := by decide +kernel
theorem dX8_mean_1 : decode cX8_mean 1 = .ok (.getfield 7, 3) := by decide +kernel
theorem dX8_mean_4 : decode cX8_mean 4 = .ok (.bipush 10, 2) := by decide +kernel
theorem dX8_mean_6 : decode cX8_mean 6 = .ok (.iaload, 1) := by decide +kernel
theorem dX8_mean_7 : decode cX8_mean 7 = .ok (.ifCond .ne 7, 3) := by decide +kernel
theorem dX8_mean_10 : decode cX8_mean 10 = .ok (.dconst 0, 1) := by decide +kernel
theorem dX8_mean_11 : decode cX8_mean 11 = .ok (.goto 20, 3) := by decide +kernel
theorem dX8_mean_14 : decode cX8_mean 14 = .ok (.aload_n 0, 1) := by decide +kernel
theorem dX8_mean_15 : decode cX8_mean 15 = .ok (.getfield 7, 3) := by decide +kernel
theorem dX8_mean_18 : decode cX8_mean 18 = .ok (.bipush 15, 2) := by decide +kernel
theorem dX8_mean_20 : decode cX8_mean 20 = .ok (.iaload, 1) := by decide +kernel
theorem dX8_mean_21 : decode cX8_mean 21 = .ok (.i2d, 1) := by decide +kernel
theorem dX8_mean_22 : decode cX8_mean 22 = .ok (.aload_n 0, 1) := by decide +kernel
theorem dX8_mean_23 : decode cX8_mean 23 = .ok (.getfield 7, 3) := by decide +kernel
theorem dX8_mean_26 : decode cX8_mean 26 = .ok (.bipush 10, 2) := by decide +kernel
theorem dX8_mean_28 : decode cX8_mean 28 = .ok (.iaload, 1) := by decide +kernel
theorem dX8_mean_29 : decode cX8_mean 29 = .ok (.i2d, 1) := by decide +kernel
theorem dX8_mean_30 : decode cX8_mean 30 = .ok (.ddiv, 1) := by decide +kernel
theorem dX8_mean_31 : decode cX8_mean 31 = .ok (.dreturn, 1) := by decide +kernel
