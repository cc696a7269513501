theorem dL_cell_0 : decode cL_cell 0 = .ok (.iload_n 1, 1) := by decide +kernel
theorem dL_cell_1 : decode cL_cell 1 = .ok (.aload_n 0, 1) := by decide +kernel
theorem dL_cell_2 : decode cL_cell 2 = .ok (.arraylength, 1) := by decide +kernel
theorem dL_cell_3 : decode cL_cell 3 = .ok (.if_icmp .ge 9, 3) := by decide +kernel
theorem dL_cell_6 : decode cL_cell 6 = .ok (.aload_n 0, 1) := by decide +kernel
theorem dL_cell_7 : decode cL_cell 7 = .ok (.iload_n 1, 1) := by decide +kernel
theorem dL_cell_8 : decode cL_cell 8 = .ok (.iaload, 1) := by decide +kernel
theorem dL_cell_9 : decode cL_cell 9 = .ok (.goto 13, 3) := by decide +kernel
theorem dL_cell_12 : decode cL_cell 12 = .ok (.ldc 7, 2) := by decide +kernel
theorem dL_cell_14 : decode cL_cell 14 = .ok (.iload_n 1, 1) := by decide +kernel
theorem dL_cell_15 : decode cL_cell 15 = .ok (.bipush 7, 2) := by decide +kernel
theorem dL_cell_17 : decode cL_cell 17 = .ok (.iadd, 1) := by decide +kernel
theorem dL_cell_18 : decode cL_cell 18 = .ok (.imul, 1) := by decide +kernel
theorem dL_cell_19 : decode cL_cell 19 = .ok (.ldc 8, 2) := by decide +kernel
theorem dL_cell_21 : decode cL_cell 21 = .ok (.iadd, 1) := by decide +kernel
theorem dL_cell_22 : decode cL_cell 22 = .ok (.ireturn, 1) := by decide +kernel
theorem dL_low_0 : decode cL_low 0 = .ok (.iload_n 0, 1) := by decide +kernel
theorem dL_low_1 : decode cL_low 1 = .ok (.ldc 9, 2) := by decide +kernel
theorem dL_low_3 : decode cL_low 3 = .ok (.iand, 1) := by decide +kernel
theorem dL_low_4 : decode cL_low 4 = .ok (.iload_n 1, 1) := by decide +kernel
theorem dL_low_5 : decode cL_low 5 = .ok (.irem, 1) := by decide +kernel
theorem dL_low_6 : decode cL_low 6 = .ok (.ireturn, 1) := by decide +kernel
theorem dL_what_0 : decode cL_what 0 = .ok (.aload_n 1, 1) := by decide +kernel
theorem dL_what_1 : decode cL_what 1 = .ok (.iload_n 0, 1) := by decide +kernel
theorem dL_what_2 : decode cL_what 2 = .ok (.iaload, 1) := by decide +kernel
theorem dL_what_3 : decode cL_what 3 = .ok (.bipush 9, 2) := by decide +kernel
theorem dL_what_5 : decode cL_what 5 = .ok (.ishr, 1) := by decide +kernel
theorem dL_what_6 : decode cL_what 6 = .ok (.ireturn, 1) := by decide +kernel
theorem dL_becomes_0 : decode cL_becomes 0 = .ok (.aload_n 2, 1) := by decide +kernel
theorem dL_becomes_1 : decode cL_becomes 1 = .ok (.iload_n 0, 1) := by decide +kernel
theorem dL_becomes_2 : decode cL_becomes 2 = .ok (.aload_n 2, 1) := by decide +kernel
theorem dL_becomes_3 : decode cL_becomes 3 = .ok (.iload_n 0, 1) := by decide +kernel
theorem dL_becomes_4 : decode cL_becomes 4 = .ok (.iaload, 1) := by decide +kernel
theorem dL_becomes_5 : decode cL_becomes 5 = .ok (.sipush 511, 3) := by decide +kernel
theorem dL_becomes_8 : decode cL_becomes 8 = .ok (.iand, 1) := by decide +kernel
theorem dL_becomes_9 : decode cL_becomes 9 = .ok (.iload_n 1, 1) := by decide +kernel
theorem dL_becomes_10 : decode cL_becomes 10 = .ok (.bipush 9, 2) := by decide +kernel
theorem dL_becomes_12 : decode cL_becomes 12 = .ok (.ishl, 1) := by decide +kernel
theorem dL_becomes_13 : decode cL_becomes 13 = .ok (.ior, 1) := by decide +kernel
theorem dL_becomes_14 : decode cL_becomes 14 = .ok (.iastore, 1) := by decide +kernel
theorem dL_becomes_15 : decode cL_becomes 15 = .ok (.return_, 1) := by decide +kernel
theorem dL_records_0 : decode cL_records 0 = .ok (.aload_n 1, 1) := by decide +kernel
theorem dL_records_1 : decode cL_records 1 = .ok (.iload_n 0, 1) := by decide +kernel
theorem dL_records_2 : decode cL_records 2 = .ok (.iaload, 1) := by decide +kernel
theorem dL_records_3 : decode cL_records 3 = .ok (.iconst 4, 1) := by decide +kernel
theorem dL_records_4 : decode cL_records 4 = .ok (.ishr, 1) := by decide +kernel
theorem dL_records_5 : decode cL_records 5 = .ok (.bipush 15, 2) := by decide +kernel
theorem dL_records_7 : decode cL_records 7 = .ok (.iand, 1) := by decide +kernel
theorem dL_records_8 : decode cL_records 8 = .ok (.ireturn, 1) := by decide +kernel
theorem dL_members_0 : decode cL_members 0 = .ok (.iconst 0, 1) := by decide +kernel
theorem dL_members_1 : decode cL_members 1 = .ok (.istore 4, 2) := by decide +kernel
theorem dL_members_3 : decode cL_members 3 = .ok (.iconst 0, 1) := by decide +kernel
theorem dL_members_4 : decode cL_members 4 = .ok (.istore 5, 2) := by decide +kernel
theorem dL_members_6 : decode cL_members 6 = .ok (.iload 5, 2) := by decide +kernel
theorem dL_members_8 : decode cL_members 8 = .ok (.aload_n 1, 1) := by decide +kernel
theorem dL_members_9 : decode cL_members 9 = .ok (.bipush 6, 2) := by decide +kernel
theorem dL_members_11 : decode cL_members 11 = .ok (.iaload, 1) := by decide +kernel
theorem dL_members_12 : decode cL_members 12 = .ok (.if_icmp .ge 40, 3) := by decide +kernel
theorem dL_members_15 : decode cL_members 15 = .ok (.iload 4, 2) := by decide +kernel
theorem dL_members_17 : decode cL_members 17 = .ok (.aload_n 3, 1) := by decide +kernel
theorem dL_members_18 : decode cL_members 18 = .ok (.iload 5, 2) := by decide +kernel
theorem dL_members_20 : decode cL_members 20 = .ok (.iaload, 1) := by decide +kernel
theorem dL_members_21 : decode cL_members 21 = .ok (.iconst 2, 1) := by decide +kernel
theorem dL_members_22 : decode cL_members 22 = .ok (.iload_n 0, 1) := by decide +kernel
theorem dL_members_23 : decode cL_members 23 = .ok (.imul, 1) := by decide +kernel
theorem dL_members_24 : decode cL_members 24 = .ok (.if_icmp .ne 18, 3) := by decide +kernel
theorem dL_members_27 : decode cL_members 27 = .ok (.iconst 1, 1) := by decide +kernel
theorem dL_members_28 : decode cL_members 28 = .ok (.sipush 1000, 3) := by decide +kernel
theorem dL_members_31 : decode cL_members 31 = .ok (.iload 5, 2) := by decide +kernel
theorem dL_members_33 : decode cL_members 33 = .ok (.aload_n 2, 1) := by decide +kernel
theorem dL_members_34 : decode cL_members 34 = .ok (.invokestatic 10, 3) := by decide +kernel
theorem dL_members_37 : decode cL_members 37 = .ok (.imul, 1) := by decide +kernel
theorem dL_members_38 : decode cL_members 38 = .ok (.iadd, 1) := by decide +kernel
theorem dL_members_39 : decode cL_members 39 = .ok (.goto 4, 3) := by decide +kernel
theorem dL_members_42 : decode cL_members 42 = .ok (.iconst 0, 1) := by decide +kernel
theorem dL_members_43 : decode cL_members 43 = .ok (.iadd, 1) := by decide +kernel
theorem dL_members_44 : decode cL_members 44 = .ok (.istore 4, 2) := by decide +kernel
theorem dL_members_46 : decode cL_members 46 = .ok (.iinc 5 1, 3) := by decide +kernel
theorem dL_members_49 : decode cL_members 49 = .ok (.goto (-43), 3) := by decide +kernel
theorem dL_members_52 : decode cL_members 52 = .ok (.iload 4, 2) := by decide +kernel
theorem dL_members_54 : decode cL_members 54 = .ok (.ireturn, 1) := by decide +kernel
theorem dL_firstOf_0 : decode cL_firstOf 0 = .ok (.iconst 0, 1) := by decide +kernel
theorem dL_firstOf_1 : decode cL_firstOf 1 = .ok (.istore_n 3, 1) := by decide +kernel
theorem dL_firstOf_2 : decode cL_firstOf 2 = .ok (.iload_n 3, 1) := by decide +kernel
theorem dL_firstOf_3 : decode cL_firstOf 3 = .ok (.aload_n 1, 1) := by decide +kernel
theorem dL_firstOf_4 : decode cL_firstOf 4 = .ok (.bipush 6, 2) := by decide +kernel
theorem dL_firstOf_6 : decode cL_firstOf 6 = .ok (.iaload, 1) := by decide +kernel
theorem dL_firstOf_7 : decode cL_firstOf 7 = .ok (.if_icmp .ge 20, 3) := by decide +kernel
theorem dL_firstOf_10 : decode cL_firstOf 10 = .ok (.aload_n 2, 1) := by decide +kernel
theorem dL_firstOf_11 : decode cL_firstOf 11 = .ok (.iload_n 3, 1) := by decide +kernel
theorem dL_firstOf_12 : decode cL_firstOf 12 = .ok (.iaload, 1) := by decide +kernel
theorem dL_firstOf_13 : decode cL_firstOf 13 = .ok (.iconst 2, 1) := by decide +kernel
theorem dL_firstOf_14 : decode cL_firstOf 14 = .ok (.iload_n 0, 1) := by decide +kernel
theorem dL_firstOf_15 : decode cL_firstOf 15 = .ok (.imul, 1) := by decide +kernel
theorem dL_firstOf_16 : decode cL_firstOf 16 = .ok (.if_icmp .ne 5, 3) := by decide +kernel
theorem dL_firstOf_19 : decode cL_firstOf 19 = .ok (.iload_n 3, 1) := by decide +kernel
theorem dL_firstOf_20 : decode cL_firstOf 20 = .ok (.ireturn, 1) := by decide +kernel
theorem dL_firstOf_21 : decode cL_firstOf 21 = .ok (.iinc 3 1, 3) := by decide +kernel
theorem dL_firstOf_24 : decode cL_firstOf 24 = .ok (.goto (-22), 3) := by decide +kernel
theorem dL_firstOf_27 : decode cL_firstOf 27 = .ok (.bipush (-5), 2) := by decide +kernel
theorem dL_firstOf_29 : decode cL_firstOf 29 = .ok (.ireturn, 1) := by decide +kernel
theorem dL_turns_0 : decode cL_turns 0 = .ok (.iconst 0, 1) := by decide +kernel
theorem dL_turns_1 : decode cL_turns 1 = .ok (.istore 5, 2) := by decide +kernel
theorem dL_turns_3 : decode cL_turns 3 = .ok (.iconst 0, 1) := by decide +kernel
theorem dL_turns_4 : decode cL_turns 4 = .ok (.istore 6, 2) := by decide +kernel
theorem dL_turns_6 : decode cL_turns 6 = .ok (.iload 6, 2) := by decide +kernel
theorem dL_turns_8 : decode cL_turns 8 = .ok (.aload_n 2, 1) := by decide +kernel
theorem dL_turns_9 : decode cL_turns 9 = .ok (.bipush 6, 2) := by decide +kernel
theorem dL_turns_11 : decode cL_turns 11 = .ok (.iaload, 1) := by decide +kernel
theorem dL_turns_12 : decode cL_turns 12 = .ok (.if_icmp .ge 40, 3) := by decide +kernel
theorem dL_turns_15 : decode cL_turns 15 = .ok (.aload 4, 2) := by decide +kernel
theorem dL_turns_17 : decode cL_turns 17 = .ok (.iload 6, 2) := by decide +kernel
theorem dL_turns_19 : decode cL_turns 19 = .ok (.iaload, 1) := by decide +kernel
theorem dL_turns_20 : decode cL_turns 20 = .ok (.iconst 2, 1) := by decide +kernel
theorem dL_turns_21 : decode cL_turns 21 = .ok (.iload_n 0, 1) := by decide +kernel
theorem dL_turns_22 : decode cL_turns 22 = .ok (.imul, 1) := by decide +kernel
theorem dL_turns_23 : decode cL_turns 23 = .ok (.if_icmp .ne 23, 3) := by decide +kernel
theorem dL_turns_26 : decode cL_turns 26 = .ok (.iload 6, 2) := by decide +kernel
theorem dL_turns_28 : decode cL_turns 28 = .ok (.aload_n 3, 1) := by decide +kernel
theorem dL_turns_29 : decode cL_turns 29 = .ok (.invokestatic 16, 3) := by decide +kernel
theorem dL_turns_32 : decode cL_turns 32 = .ok (.iconst 4, 1) := by decide +kernel
theorem dL_turns_33 : decode cL_turns 33 = .ok (.if_icmp .ge 13, 3) := by decide +kernel
theorem dL_turns_36 : decode cL_turns 36 = .ok (.iload 6, 2) := by decide +kernel
theorem dL_turns_38 : decode cL_turns 38 = .ok (.iload_n 1, 1) := by decide +kernel
theorem dL_turns_39 : decode cL_turns 39 = .ok (.aload_n 3, 1) := by decide +kernel
theorem dL_turns_40 : decode cL_turns 40 = .ok (.invokestatic 19, 3) := by decide +kernel
theorem dL_turns_43 : decode cL_turns 43 = .ok (.iinc 5 1, 3) := by decide +kernel
theorem dL_turns_46 : decode cL_turns 46 = .ok (.iinc 6 1, 3) := by decide +kernel
theorem dL_turns_49 : decode cL_turns 49 = .ok (.goto (-43), 3) := by decide +kernel
theorem dL_turns_52 : decode cL_turns 52 = .ok (.iload 5, 2) := by decide +kernel
theorem dL_turns_54 : decode cL_turns 54 = .ok (.ireturn, 1) := by decide +kernel
theorem dL_writes_0 : decode cL_writes 0 = .ok (.iconst 0, 1) := by decide +kernel
theorem dL_writes_1 : decode cL_writes 1 = .ok (.istore 4, 2) := by decide +kernel
theorem dL_writes_3 : decode cL_writes 3 = .ok (.iload 4, 2) := by decide +kernel
theorem dL_writes_5 : decode cL_writes 5 = .ok (.aload_n 0, 1) := by decide +kernel
theorem dL_writes_6 : decode cL_writes 6 = .ok (.bipush 7, 2) := by decide +kernel
theorem dL_writes_8 : decode cL_writes 8 = .ok (.iaload, 1) := by decide +kernel
theorem dL_writes_9 : decode cL_writes 9 = .ok (.if_icmp .ge 71, 3) := by decide +kernel
theorem dL_writes_12 : decode cL_writes 12 = .ok (.aload_n 0, 1) := by decide +kernel
theorem dL_writes_13 : decode cL_writes 13 = .ok (.bipush 9, 2) := by decide +kernel
theorem dL_writes_15 : decode cL_writes 15 = .ok (.iaload, 1) := by decide +kernel
theorem dL_writes_16 : decode cL_writes 16 = .ok (.ifCond .ge 58, 3) := by decide +kernel
theorem dL_writes_19 : decode cL_writes 19 = .ok (.aload_n 3, 1) := by decide +kernel
theorem dL_writes_20 : decode cL_writes 20 = .ok (.iload 4, 2) := by decide +kernel
theorem dL_writes_22 : decode cL_writes 22 = .ok (.iaload, 1) := by decide +kernel
theorem dL_writes_23 : decode cL_writes 23 = .ok (.bipush 7, 2) := by decide +kernel
theorem dL_writes_25 : decode cL_writes 25 = .ok (.iand, 1) := by decide +kernel
theorem dL_writes_26 : decode cL_writes 26 = .ok (.iconst 2, 1) := by decide +kernel
theorem dL_writes_27 : decode cL_writes 27 = .ok (.if_icmp .ne 47, 3) := by decide +kernel
theorem dL_writes_30 : decode cL_writes 30 = .ok (.aload_n 0, 1) := by decide +kernel
theorem dL_writes_31 : decode cL_writes 31 = .ok (.bipush 9, 2) := by decide +kernel
theorem dL_writes_33 : decode cL_writes 33 = .ok (.iload 4, 2) := by decide +kernel
theorem dL_writes_35 : decode cL_writes 35 = .ok (.iastore, 1) := by decide +kernel
theorem dL_writes_36 : decode cL_writes 36 = .ok (.aload_n 3, 1) := by decide +kernel
theorem dL_writes_37 : decode cL_writes 37 = .ok (.iload 4, 2) := by decide +kernel
theorem dL_writes_39 : decode cL_writes 39 = .ok (.dup2, 1) := by decide +kernel
theorem dL_writes_40 : decode cL_writes 40 = .ok (.iaload, 1) := by decide +kernel
theorem dL_writes_41 : decode cL_writes 41 = .ok (.iconst 1, 1) := by decide +kernel
theorem dL_writes_42 : decode cL_writes 42 = .ok (.iadd, 1) := by decide +kernel
theorem dL_writes_43 : decode cL_writes 43 = .ok (.iastore, 1) := by decide +kernel
theorem dL_writes_44 : decode cL_writes 44 = .ok (.aload_n 0, 1) := by decide +kernel
theorem dL_writes_45 : decode cL_writes 45 = .ok (.bipush 10, 2) := by decide +kernel
theorem dL_writes_47 : decode cL_writes 47 = .ok (.aload_n 0, 1) := by decide +kernel
theorem dL_writes_48 : decode cL_writes 48 = .ok (.iconst 4, 1) := by decide +kernel
theorem dL_writes_49 : decode cL_writes 49 = .ok (.iaload, 1) := by decide +kernel
theorem dL_writes_50 : decode cL_writes 50 = .ok (.iload 4, 2) := by decide +kernel
theorem dL_writes_52 : decode cL_writes 52 = .ok (.aload_n 0, 1) := by decide +kernel
theorem dL_writes_53 : decode cL_writes 53 = .ok (.aload_n 1, 1) := by decide +kernel
theorem dL_writes_54 : decode cL_writes 54 = .ok (.aload_n 2, 1) := by decide +kernel
theorem dL_writes_55 : decode cL_writes 55 = .ok (.invokestatic 23, 3) := by decide +kernel
theorem dL_writes_58 : decode cL_writes 58 = .ok (.sipush 4000, 3) := by decide +kernel
theorem dL_writes_61 : decode cL_writes 61 = .ok (.idiv, 1) := by decide +kernel
theorem dL_writes_62 : decode cL_writes 62 = .ok (.iadd, 1) := by decide +kernel
theorem dL_writes_63 : decode cL_writes 63 = .ok (.iastore, 1) := by decide +kernel
theorem dL_writes_64 : decode cL_writes 64 = .ok (.iload 4, 2) := by decide +kernel
theorem dL_writes_66 : decode cL_writes 66 = .ok (.iconst 3, 1) := by decide +kernel
theorem dL_writes_67 : decode cL_writes 67 = .ok (.aload_n 0, 1) := by decide +kernel
theorem dL_writes_68 : decode cL_writes 68 = .ok (.aload_n 1, 1) := by decide +kernel
theorem dL_writes_69 : decode cL_writes 69 = .ok (.aload_n 2, 1) := by decide +kernel
theorem dL_writes_70 : decode cL_writes 70 = .ok (.invokestatic 27, 3) := by decide +kernel
theorem dL_writes_73 : decode cL_writes 73 = .ok (.pop, 1) := by decide +kernel
theorem dL_writes_74 : decode cL_writes 74 = .ok (.iinc 4 1, 3) := by decide +kernel
theorem dL_writes_77 : decode cL_writes 77 = .ok (.goto (-74), 3) := by decide +kernel
theorem dL_writes_80 : decode cL_writes 80 = .ok (.return_, 1) := by decide +kernel
theorem dL_closes_0 : decode cL_closes 0 = .ok (.aload_n 1, 1) := by decide +kernel
theorem dL_closes_1 : decode cL_closes 1 = .ok (.bipush 8, 2) := by decide +kernel
theorem dL_closes_3 : decode cL_closes 3 = .ok (.iaload, 1) := by decide +kernel
theorem dL_closes_4 : decode cL_closes 4 = .ok (.istore 5, 2) := by decide +kernel
theorem dL_closes_6 : decode cL_closes 6 = .ok (.iload 5, 2) := by decide +kernel
theorem dL_closes_8 : decode cL_closes 8 = .ok (.aload_n 1, 1) := by decide +kernel
theorem dL_closes_9 : decode cL_closes 9 = .ok (.aload_n 2, 1) := by decide +kernel
theorem dL_closes_10 : decode cL_closes 10 = .ok (.aload_n 3, 1) := by decide +kernel
theorem dL_closes_11 : decode cL_closes 11 = .ok (.invokestatic 23, 3) := by decide +kernel
theorem dL_closes_14 : decode cL_closes 14 = .ok (.sipush 1000, 3) := by decide +kernel
theorem dL_closes_17 : decode cL_closes 17 = .ok (.irem, 1) := by decide +kernel
theorem dL_closes_18 : decode cL_closes 18 = .ok (.istore 6, 2) := by decide +kernel
theorem dL_closes_20 : decode cL_closes 20 = .ok (.aload_n 1, 1) := by decide +kernel
theorem dL_closes_21 : decode cL_closes 21 = .ok (.bipush 8, 2) := by decide +kernel
theorem dL_closes_23 : decode cL_closes 23 = .ok (.bipush (-5), 2) := by decide +kernel
theorem dL_closes_25 : decode cL_closes 25 = .ok (.iastore, 1) := by decide +kernel
theorem dL_closes_26 : decode cL_closes 26 = .ok (.aload 4, 2) := by decide +kernel
theorem dL_closes_28 : decode cL_closes 28 = .ok (.iload 5, 2) := by decide +kernel
theorem dL_closes_30 : decode cL_closes 30 = .ok (.iconst 2, 1) := by decide +kernel
theorem dL_closes_31 : decode cL_closes 31 = .ok (.bipush 8, 2) := by decide +kernel
theorem dL_closes_33 : decode cL_closes 33 = .ok (.iload_n 0, 1) := by decide +kernel
theorem dL_closes_34 : decode cL_closes 34 = .ok (.imul, 1) := by decide +kernel
theorem dL_closes_35 : decode cL_closes 35 = .ok (.iadd, 1) := by decide +kernel
theorem dL_closes_36 : decode cL_closes 36 = .ok (.iastore, 1) := by decide +kernel
theorem dL_closes_37 : decode cL_closes 37 = .ok (.iload 5, 2) := by decide +kernel
theorem dL_closes_39 : decode cL_closes 39 = .ok (.iconst 2, 1) := by decide +kernel
theorem dL_closes_40 : decode cL_closes 40 = .ok (.aload_n 1, 1) := by decide +kernel
theorem dL_closes_41 : decode cL_closes 41 = .ok (.aload_n 2, 1) := by decide +kernel
theorem dL_closes_42 : decode cL_closes 42 = .ok (.aload_n 3, 1) := by decide +kernel
theorem dL_closes_43 : decode cL_closes 43 = .ok (.invokestatic 27, 3) := by decide +kernel
theorem dL_closes_46 : decode cL_closes 46 = .ok (.pop, 1) := by decide +kernel
theorem dL_closes_47 : decode cL_closes 47 = .ok (.aload_n 1, 1) := by decide +kernel
theorem dL_closes_48 : decode cL_closes 48 = .ok (.iconst 5, 1) := by decide +kernel
theorem dL_closes_49 : decode cL_closes 49 = .ok (.iaload, 1) := by decide +kernel
theorem dL_closes_50 : decode cL_closes 50 = .ok (.iconst 1, 1) := by decide +kernel
theorem dL_closes_51 : decode cL_closes 51 = .ok (.if_icmp .ne 35, 3) := by decide +kernel
theorem dL_closes_54 : decode cL_closes 54 = .ok (.iload 6, 2) := by decide +kernel
theorem dL_closes_56 : decode cL_closes 56 = .ok (.iconst 1, 1) := by decide +kernel
theorem dL_closes_57 : decode cL_closes 57 = .ok (.if_icmp .le 29, 3) := by decide +kernel
theorem dL_closes_60 : decode cL_closes 60 = .ok (.aload_n 1, 1) := by decide +kernel
theorem dL_closes_61 : decode cL_closes 61 = .ok (.iconst 1, 1) := by decide +kernel
theorem dL_closes_62 : decode cL_closes 62 = .ok (.aload_n 1, 1) := by decide +kernel
theorem dL_closes_63 : decode cL_closes 63 = .ok (.iconst 1, 1) := by decide +kernel
theorem dL_closes_64 : decode cL_closes 64 = .ok (.iaload, 1) := by decide +kernel
theorem dL_closes_65 : decode cL_closes 65 = .ok (.aload_n 1, 1) := by decide +kernel
theorem dL_closes_66 : decode cL_closes 66 = .ok (.iconst 2, 1) := by decide +kernel
theorem dL_closes_67 : decode cL_closes 67 = .ok (.iaload, 1) := by decide +kernel
theorem dL_closes_68 : decode cL_closes 68 = .ok (.if_icmp .ge 11, 3) := by decide +kernel
theorem dL_closes_71 : decode cL_closes 71 = .ok (.aload_n 1, 1) := by decide +kernel
theorem dL_closes_72 : decode cL_closes 72 = .ok (.iconst 1, 1) := by decide +kernel
theorem dL_closes_73 : decode cL_closes 73 = .ok (.iaload, 1) := by decide +kernel
theorem dL_closes_74 : decode cL_closes 74 = .ok (.iconst 1, 1) := by decide +kernel
theorem dL_closes_75 : decode cL_closes 75 = .ok (.iadd, 1) := by decide +kernel
theorem dL_closes_76 : decode cL_closes 76 = .ok (.goto 6, 3) := by decide +kernel
theorem dL_closes_79 : decode cL_closes 79 = .ok (.aload_n 1, 1) := by decide +kernel
theorem dL_closes_80 : decode cL_closes 80 = .ok (.iconst 2, 1) := by decide +kernel
theorem dL_closes_81 : decode cL_closes 81 = .ok (.iaload, 1) := by decide +kernel
theorem dL_closes_82 : decode cL_closes 82 = .ok (.iastore, 1) := by decide +kernel
theorem dL_closes_83 : decode cL_closes 83 = .ok (.goto 28, 3) := by decide +kernel
theorem dL_closes_86 : decode cL_closes 86 = .ok (.aload_n 1, 1) := by decide +kernel
theorem dL_closes_87 : decode cL_closes 87 = .ok (.iconst 5, 1) := by decide +kernel
theorem dL_closes_88 : decode cL_closes 88 = .ok (.iaload, 1) := by decide +kernel
theorem dL_closes_89 : decode cL_closes 89 = .ok (.iconst 1, 1) := by decide +kernel
theorem dL_closes_90 : decode cL_closes 90 = .ok (.if_icmp .ne 21, 3) := by decide +kernel
theorem dL_closes_93 : decode cL_closes 93 = .ok (.aload_n 1, 1) := by decide +kernel
theorem dL_closes_94 : decode cL_closes 94 = .ok (.iconst 1, 1) := by decide +kernel
theorem dL_closes_95 : decode cL_closes 95 = .ok (.aload_n 1, 1) := by decide +kernel
theorem dL_closes_96 : decode cL_closes 96 = .ok (.iconst 1, 1) := by decide +kernel
theorem dL_closes_97 : decode cL_closes 97 = .ok (.iaload, 1) := by decide +kernel
theorem dL_closes_98 : decode cL_closes 98 = .ok (.ifCond .le 11, 3) := by decide +kernel
theorem dL_closes_101 : decode cL_closes 101 = .ok (.aload_n 1, 1) := by decide +kernel
theorem dL_closes_102 : decode cL_closes 102 = .ok (.iconst 1, 1) := by decide +kernel
theorem dL_closes_103 : decode cL_closes 103 = .ok (.iaload, 1) := by decide +kernel
theorem dL_closes_104 : decode cL_closes 104 = .ok (.iconst 1, 1) := by decide +kernel
theorem dL_closes_105 : decode cL_closes 105 = .ok (.isub, 1) := by decide +kernel
theorem dL_closes_106 : decode cL_closes 106 = .ok (.goto 4, 3) := by decide +kernel
theorem dL_closes_109 : decode cL_closes 109 = .ok (.iconst 0, 1) := by decide +kernel
theorem dL_closes_110 : decode cL_closes 110 = .ok (.iastore, 1) := by decide +kernel
theorem dL_closes_111 : decode cL_closes 111 = .ok (.aload_n 1, 1) := by decide +kernel
theorem dL_closes_112 : decode cL_closes 112 = .ok (.aload_n 2, 1) := by decide +kernel
theorem dL_closes_113 : decode cL_closes 113 = .ok (.aload_n 3, 1) := by decide +kernel
theorem dL_closes_114 : decode cL_closes 114 = .ok (.aload 4, 2) := by decide +kernel
theorem dL_closes_116 : decode cL_closes 116 = .ok (.invokestatic 31, 3) := by decide +kernel
theorem dL_closes_119 : decode cL_closes 119 = .ok (.return_, 1) := by decide +kernel
theorem dL_ticks_0 : decode cL_ticks 0 = .ok (.iconst 0, 1) := by decide +kernel
theorem dL_ticks_1 : decode cL_ticks 1 = .ok (.istore 8, 2) := by decide +kernel
theorem dL_ticks_3 : decode cL_ticks 3 = .ok (.iconst 0, 1) := by decide +kernel
theorem dL_ticks_4 : decode cL_ticks 4 = .ok (.istore 9, 2) := by decide +kernel
theorem dL_ticks_6 : decode cL_ticks 6 = .ok (.iload 9, 2) := by decide +kernel
theorem dL_ticks_8 : decode cL_ticks 8 = .ok (.iload_n 0, 1) := by decide +kernel
theorem dL_ticks_9 : decode cL_ticks 9 = .ok (.if_icmp .ge 218, 3) := by decide +kernel
theorem dL_ticks_12 : decode cL_ticks 12 = .ok (.aload_n 1, 1) := by decide +kernel
theorem dL_ticks_13 : decode cL_ticks 13 = .ok (.iconst 0, 1) := by decide +kernel
theorem dL_ticks_14 : decode cL_ticks 14 = .ok (.dup2, 1) := by decide +kernel
theorem dL_ticks_15 : decode cL_ticks 15 = .ok (.iaload, 1) := by decide +kernel
theorem dL_ticks_16 : decode cL_ticks 16 = .ok (.iconst 1, 1) := by decide +kernel
theorem dL_ticks_17 : decode cL_ticks 17 = .ok (.iadd, 1) := by decide +kernel
theorem dL_ticks_18 : decode cL_ticks 18 = .ok (.iastore, 1) := by decide +kernel
theorem dL_ticks_19 : decode cL_ticks 19 = .ok (.aload_n 1, 1) := by decide +kernel
theorem dL_ticks_20 : decode cL_ticks 20 = .ok (.bipush 10, 2) := by decide +kernel
theorem dL_ticks_22 : decode cL_ticks 22 = .ok (.dup2, 1) := by decide +kernel
theorem dL_ticks_23 : decode cL_ticks 23 = .ok (.iaload, 1) := by decide +kernel
theorem dL_ticks_24 : decode cL_ticks 24 = .ok (.aload_n 1, 1) := by decide +kernel
theorem dL_ticks_25 : decode cL_ticks 25 = .ok (.bipush 9, 2) := by decide +kernel
theorem dL_ticks_27 : decode cL_ticks 27 = .ok (.iaload, 1) := by decide +kernel
theorem dL_ticks_28 : decode cL_ticks 28 = .ok (.ifCond .ge 7, 3) := by decide +kernel
theorem dL_ticks_31 : decode cL_ticks 31 = .ok (.iconst 0, 1) := by decide +kernel
theorem dL_ticks_32 : decode cL_ticks 32 = .ok (.goto 4, 3) := by decide +kernel
theorem dL_ticks_35 : decode cL_ticks 35 = .ok (.iconst 1, 1) := by decide +kernel
theorem dL_ticks_36 : decode cL_ticks 36 = .ok (.isub, 1) := by decide +kernel
theorem dL_ticks_37 : decode cL_ticks 37 = .ok (.iastore, 1) := by decide +kernel
theorem dL_ticks_38 : decode cL_ticks 38 = .ok (.aload_n 1, 1) := by decide +kernel
theorem dL_ticks_39 : decode cL_ticks 39 = .ok (.bipush 9, 2) := by decide +kernel
theorem dL_ticks_41 : decode cL_ticks 41 = .ok (.iaload, 1) := by decide +kernel
theorem dL_ticks_42 : decode cL_ticks 42 = .ok (.ifCond .lt 140, 3) := by decide +kernel
theorem dL_ticks_45 : decode cL_ticks 45 = .ok (.aload_n 1, 1) := by decide +kernel
theorem dL_ticks_46 : decode cL_ticks 46 = .ok (.bipush 10, 2) := by decide +kernel
theorem dL_ticks_48 : decode cL_ticks 48 = .ok (.iaload, 1) := by decide +kernel
theorem dL_ticks_49 : decode cL_ticks 49 = .ok (.ifCond .ne 133, 3) := by decide +kernel
theorem dL_ticks_52 : decode cL_ticks 52 = .ok (.aload_n 1, 1) := by decide +kernel
theorem dL_ticks_53 : decode cL_ticks 53 = .ok (.bipush 9, 2) := by decide +kernel
theorem dL_ticks_55 : decode cL_ticks 55 = .ok (.iaload, 1) := by decide +kernel
theorem dL_ticks_56 : decode cL_ticks 56 = .ok (.istore 10, 2) := by decide +kernel
theorem dL_ticks_58 : decode cL_ticks 58 = .ok (.aload_n 1, 1) := by decide +kernel
theorem dL_ticks_59 : decode cL_ticks 59 = .ok (.bipush 9, 2) := by decide +kernel
theorem dL_ticks_61 : decode cL_ticks 61 = .ok (.bipush (-5), 2) := by decide +kernel
theorem dL_ticks_63 : decode cL_ticks 63 = .ok (.iastore, 1) := by decide +kernel
theorem dL_ticks_64 : decode cL_ticks 64 = .ok (.aload 6, 2) := by decide +kernel
theorem dL_ticks_66 : decode cL_ticks 66 = .ok (.iload 10, 2) := by decide +kernel
theorem dL_ticks_68 : decode cL_ticks 68 = .ok (.dup2, 1) := by decide +kernel
theorem dL_ticks_69 : decode cL_ticks 69 = .ok (.iaload, 1) := by decide +kernel
theorem dL_ticks_70 : decode cL_ticks 70 = .ok (.iconst 1, 1) := by decide +kernel
theorem dL_ticks_71 : decode cL_ticks 71 = .ok (.iadd, 1) := by decide +kernel
theorem dL_ticks_72 : decode cL_ticks 72 = .ok (.iastore, 1) := by decide +kernel
theorem dL_ticks_73 : decode cL_ticks 73 = .ok (.aload_n 1, 1) := by decide +kernel
theorem dL_ticks_74 : decode cL_ticks 74 = .ok (.bipush 14, 2) := by decide +kernel
theorem dL_ticks_76 : decode cL_ticks 76 = .ok (.dup2, 1) := by decide +kernel
theorem dL_ticks_77 : decode cL_ticks 77 = .ok (.iaload, 1) := by decide +kernel
theorem dL_ticks_78 : decode cL_ticks 78 = .ok (.iconst 1, 1) := by decide +kernel
theorem dL_ticks_79 : decode cL_ticks 79 = .ok (.iadd, 1) := by decide +kernel
theorem dL_ticks_80 : decode cL_ticks 80 = .ok (.iastore, 1) := by decide +kernel
theorem dL_ticks_81 : decode cL_ticks 81 = .ok (.aload_n 1, 1) := by decide +kernel
theorem dL_ticks_82 : decode cL_ticks 82 = .ok (.bipush 15, 2) := by decide +kernel
theorem dL_ticks_84 : decode cL_ticks 84 = .ok (.dup2, 1) := by decide +kernel
theorem dL_ticks_85 : decode cL_ticks 85 = .ok (.iaload, 1) := by decide +kernel
theorem dL_ticks_86 : decode cL_ticks 86 = .ok (.iload 10, 2) := by decide +kernel
theorem dL_ticks_88 : decode cL_ticks 88 = .ok (.aload_n 1, 1) := by decide +kernel
theorem dL_ticks_89 : decode cL_ticks 89 = .ok (.aload_n 2, 1) := by decide +kernel
theorem dL_ticks_90 : decode cL_ticks 90 = .ok (.aload 5, 2) := by decide +kernel
theorem dL_ticks_92 : decode cL_ticks 92 = .ok (.invokestatic 23, 3) := by decide +kernel
theorem dL_ticks_95 : decode cL_ticks 95 = .ok (.sipush 1000, 3) := by decide +kernel
theorem dL_ticks_98 : decode cL_ticks 98 = .ok (.idiv, 1) := by decide +kernel
theorem dL_ticks_99 : decode cL_ticks 99 = .ok (.iadd, 1) := by decide +kernel
theorem dL_ticks_100 : decode cL_ticks 100 = .ok (.iastore, 1) := by decide +kernel
theorem dL_ticks_101 : decode cL_ticks 101 = .ok (.iconst 0, 1) := by decide +kernel
theorem dL_ticks_102 : decode cL_ticks 102 = .ok (.istore 11, 2) := by decide +kernel
theorem dL_ticks_104 : decode cL_ticks 104 = .ok (.iload 11, 2) := by decide +kernel
theorem dL_ticks_106 : decode cL_ticks 106 = .ok (.aload_n 1, 1) := by decide +kernel
theorem dL_ticks_107 : decode cL_ticks 107 = .ok (.bipush 6, 2) := by decide +kernel
theorem dL_ticks_109 : decode cL_ticks 109 = .ok (.iaload, 1) := by decide +kernel
theorem dL_ticks_110 : decode cL_ticks 110 = .ok (.if_icmp .ge 72, 3) := by decide +kernel
theorem dL_ticks_113 : decode cL_ticks 113 = .ok (.aload 5, 2) := by decide +kernel
theorem dL_ticks_115 : decode cL_ticks 115 = .ok (.iload 11, 2) := by decide +kernel
theorem dL_ticks_117 : decode cL_ticks 117 = .ok (.iaload, 1) := by decide +kernel
theorem dL_ticks_118 : decode cL_ticks 118 = .ok (.iconst 2, 1) := by decide +kernel
theorem dL_ticks_119 : decode cL_ticks 119 = .ok (.iload 10, 2) := by decide +kernel
theorem dL_ticks_121 : decode cL_ticks 121 = .ok (.imul, 1) := by decide +kernel
theorem dL_ticks_122 : decode cL_ticks 122 = .ok (.if_icmp .ne 54, 3) := by decide +kernel
theorem dL_ticks_125 : decode cL_ticks 125 = .ok (.iload 11, 2) := by decide +kernel
theorem dL_ticks_127 : decode cL_ticks 127 = .ok (.aload_n 2, 1) := by decide +kernel
theorem dL_ticks_128 : decode cL_ticks 128 = .ok (.invokestatic 16, 3) := by decide +kernel
theorem dL_ticks_131 : decode cL_ticks 131 = .ok (.iconst 3, 1) := by decide +kernel
theorem dL_ticks_132 : decode cL_ticks 132 = .ok (.if_icmp .ne 44, 3) := by decide +kernel
theorem dL_ticks_135 : decode cL_ticks 135 = .ok (.iload 11, 2) := by decide +kernel
theorem dL_ticks_137 : decode cL_ticks 137 = .ok (.iconst 4, 1) := by decide +kernel
theorem dL_ticks_138 : decode cL_ticks 138 = .ok (.aload_n 2, 1) := by decide +kernel
theorem dL_ticks_139 : decode cL_ticks 139 = .ok (.invokestatic 19, 3) := by decide +kernel
theorem dL_ticks_142 : decode cL_ticks 142 = .ok (.aload 4, 2) := by decide +kernel
theorem dL_ticks_144 : decode cL_ticks 144 = .ok (.iload 11, 2) := by decide +kernel
theorem dL_ticks_146 : decode cL_ticks 146 = .ok (.aload_n 1, 1) := by decide +kernel
theorem dL_ticks_147 : decode cL_ticks 147 = .ok (.iconst 0, 1) := by decide +kernel
theorem dL_ticks_148 : decode cL_ticks 148 = .ok (.iaload, 1) := by decide +kernel
theorem dL_ticks_149 : decode cL_ticks 149 = .ok (.iastore, 1) := by decide +kernel
theorem dL_ticks_150 : decode cL_ticks 150 = .ok (.aload_n 1, 1) := by decide +kernel
theorem dL_ticks_151 : decode cL_ticks 151 = .ok (.bipush 16, 2) := by decide +kernel
theorem dL_ticks_153 : decode cL_ticks 153 = .ok (.dup2, 1) := by decide +kernel
theorem dL_ticks_154 : decode cL_ticks 154 = .ok (.iaload, 1) := by decide +kernel
theorem dL_ticks_155 : decode cL_ticks 155 = .ok (.aload_n 1, 1) := by decide +kernel
theorem dL_ticks_156 : decode cL_ticks 156 = .ok (.iconst 0, 1) := by decide +kernel
theorem dL_ticks_157 : decode cL_ticks 157 = .ok (.iaload, 1) := by decide +kernel
theorem dL_ticks_158 : decode cL_ticks 158 = .ok (.aload_n 3, 1) := by decide +kernel
theorem dL_ticks_159 : decode cL_ticks 159 = .ok (.iload 11, 2) := by decide +kernel
theorem dL_ticks_161 : decode cL_ticks 161 = .ok (.iaload, 1) := by decide +kernel
theorem dL_ticks_162 : decode cL_ticks 162 = .ok (.isub, 1) := by decide +kernel
theorem dL_ticks_163 : decode cL_ticks 163 = .ok (.iadd, 1) := by decide +kernel
theorem dL_ticks_164 : decode cL_ticks 164 = .ok (.iastore, 1) := by decide +kernel
theorem dL_ticks_165 : decode cL_ticks 165 = .ok (.aload_n 1, 1) := by decide +kernel
theorem dL_ticks_166 : decode cL_ticks 166 = .ok (.bipush 11, 2) := by decide +kernel
theorem dL_ticks_168 : decode cL_ticks 168 = .ok (.dup2, 1) := by decide +kernel
theorem dL_ticks_169 : decode cL_ticks 169 = .ok (.iaload, 1) := by decide +kernel
theorem dL_ticks_170 : decode cL_ticks 170 = .ok (.iconst 1, 1) := by decide +kernel
theorem dL_ticks_171 : decode cL_ticks 171 = .ok (.iadd, 1) := by decide +kernel
theorem dL_ticks_172 : decode cL_ticks 172 = .ok (.iastore, 1) := by decide +kernel
theorem dL_ticks_173 : decode cL_ticks 173 = .ok (.iinc 8 1, 3) := by decide +kernel
theorem dL_ticks_176 : decode cL_ticks 176 = .ok (.iinc 11 1, 3) := by decide +kernel
theorem dL_ticks_179 : decode cL_ticks 179 = .ok (.goto (-75), 3) := by decide +kernel
theorem dL_ticks_182 : decode cL_ticks 182 = .ok (.aload_n 1, 1) := by decide +kernel
theorem dL_ticks_183 : decode cL_ticks 183 = .ok (.bipush 8, 2) := by decide +kernel
theorem dL_ticks_185 : decode cL_ticks 185 = .ok (.iaload, 1) := by decide +kernel
theorem dL_ticks_186 : decode cL_ticks 186 = .ok (.ifCond .lt 26, 3) := by decide +kernel
theorem dL_ticks_189 : decode cL_ticks 189 = .ok (.aload 7, 2) := by decide +kernel
theorem dL_ticks_191 : decode cL_ticks 191 = .ok (.aload_n 1, 1) := by decide +kernel
theorem dL_ticks_192 : decode cL_ticks 192 = .ok (.bipush 8, 2) := by decide +kernel
theorem dL_ticks_194 : decode cL_ticks 194 = .ok (.iaload, 1) := by decide +kernel
theorem dL_ticks_195 : decode cL_ticks 195 = .ok (.iaload, 1) := by decide +kernel
theorem dL_ticks_196 : decode cL_ticks 196 = .ok (.aload_n 1, 1) := by decide +kernel
theorem dL_ticks_197 : decode cL_ticks 197 = .ok (.iconst 0, 1) := by decide +kernel
theorem dL_ticks_198 : decode cL_ticks 198 = .ok (.iaload, 1) := by decide +kernel
theorem dL_ticks_199 : decode cL_ticks 199 = .ok (.if_icmp .gt 13, 3) := by decide +kernel
theorem dL_ticks_202 : decode cL_ticks 202 = .ok (.iconst 3, 1) := by decide +kernel
theorem dL_ticks_203 : decode cL_ticks 203 = .ok (.aload_n 1, 1) := by decide +kernel
theorem dL_ticks_204 : decode cL_ticks 204 = .ok (.aload_n 2, 1) := by decide +kernel
theorem dL_ticks_205 : decode cL_ticks 205 = .ok (.aload 5, 2) := by decide +kernel
theorem dL_ticks_207 : decode cL_ticks 207 = .ok (.aload 6, 2) := by decide +kernel
theorem dL_ticks_209 : decode cL_ticks 209 = .ok (.invokestatic 35, 3) := by decide +kernel
theorem dL_ticks_212 : decode cL_ticks 212 = .ok (.aload_n 1, 1) := by decide +kernel
theorem dL_ticks_213 : decode cL_ticks 213 = .ok (.aload_n 2, 1) := by decide +kernel
theorem dL_ticks_214 : decode cL_ticks 214 = .ok (.aload 5, 2) := by decide +kernel
theorem dL_ticks_216 : decode cL_ticks 216 = .ok (.aload 6, 2) := by decide +kernel
theorem dL_ticks_218 : decode cL_ticks 218 = .ok (.invokestatic 31, 3) := by decide +kernel
theorem dL_ticks_221 : decode cL_ticks 221 = .ok (.iinc 9 1, 3) := by decide +kernel
theorem dL_ticks_224 : decode cL_ticks 224 = .ok (.goto (-218), 3) := by decide +kernel
theorem dL_ticks_227 : decode cL_ticks 227 = .ok (.iload 8, 2) := by decide +kernel
theorem dL_ticks_229 : decode cL_ticks 229 = .ok (.ireturn, 1) := by decide +kernel
theorem dL_open_0 : decode cL_open 0 = .ok (.iconst 0, 1) := by decide +kernel
theorem dL_open_1 : decode cL_open 1 = .ok (.istore_n 3, 1) := by decide +kernel
theorem dL_open_2 : decode cL_open 2 = .ok (.iload_n 3, 1) := by decide +kernel
theorem dL_open_3 : decode cL_open 3 = .ok (.aload_n 1, 1) := by decide +kernel
theorem dL_open_4 : decode cL_open 4 = .ok (.bipush 6, 2) := by decide +kernel
theorem dL_open_6 : decode cL_open 6 = .ok (.iaload, 1) := by decide +kernel
theorem dL_open_7 : decode cL_open 7 = .ok (.if_icmp .ge 30, 3) := by decide +kernel
theorem dL_open_10 : decode cL_open 10 = .ok (.aload_n 2, 1) := by decide +kernel
theorem dL_open_11 : decode cL_open 11 = .ok (.iload_n 3, 1) := by decide +kernel
theorem dL_open_12 : decode cL_open 12 = .ok (.iaload, 1) := by decide +kernel
theorem dL_open_13 : decode cL_open 13 = .ok (.bipush 15, 2) := by decide +kernel
theorem dL_open_15 : decode cL_open 15 = .ok (.iand, 1) := by decide +kernel
theorem dL_open_16 : decode cL_open 16 = .ok (.iload_n 0, 1) := by decide +kernel
theorem dL_open_17 : decode cL_open 17 = .ok (.if_icmp .ne 14, 3) := by decide +kernel
theorem dL_open_20 : decode cL_open 20 = .ok (.iload_n 3, 1) := by decide +kernel
theorem dL_open_21 : decode cL_open 21 = .ok (.aload_n 2, 1) := by decide +kernel
theorem dL_open_22 : decode cL_open 22 = .ok (.invokestatic 16, 3) := by decide +kernel
theorem dL_open_25 : decode cL_open 25 = .ok (.iconst 4, 1) := by decide +kernel
theorem dL_open_26 : decode cL_open 26 = .ok (.if_icmp .ge 5, 3) := by decide +kernel
theorem dL_open_29 : decode cL_open 29 = .ok (.iload_n 3, 1) := by decide +kernel
theorem dL_open_30 : decode cL_open 30 = .ok (.ireturn, 1) := by decide +kernel
theorem dL_open_31 : decode cL_open 31 = .ok (.iinc 3 1, 3) := by decide +kernel
theorem dL_open_34 : decode cL_open 34 = .ok (.goto (-32), 3) := by decide +kernel
theorem dL_open_37 : decode cL_open 37 = .ok (.bipush (-5), 2) := by decide +kernel
theorem dL_open_39 : decode cL_open 39 = .ok (.ireturn, 1) := by decide +kernel
theorem dL_submits_0 : decode cL_submits 0 = .ok (.iload_n 0, 1) := by decide +kernel
theorem dL_submits_1 : decode cL_submits 1 = .ok (.aload_n 3, 1) := by decide +kernel
theorem dL_submits_2 : decode cL_submits 2 = .ok (.aload 4, 2) := by decide +kernel
theorem dL_submits_4 : decode cL_submits 4 = .ok (.invokestatic 39, 3) := by decide +kernel
theorem dL_submits_7 : decode cL_submits 7 = .ok (.ifCond .lt 6, 3) := by decide +kernel
theorem dL_submits_10 : decode cL_submits 10 = .ok (.bipush (-4), 2) := by decide +kernel
theorem dL_submits_12 : decode cL_submits 12 = .ok (.ireturn, 1) := by decide +kernel
theorem dL_submits_13 : decode cL_submits 13 = .ok (.aload_n 3, 1) := by decide +kernel
theorem dL_submits_14 : decode cL_submits 14 = .ok (.bipush 8, 2) := by decide +kernel
theorem dL_submits_16 : decode cL_submits 16 = .ok (.iaload, 1) := by decide +kernel
theorem dL_submits_17 : decode cL_submits 17 = .ok (.ifCond .ge 41, 3) := by decide +kernel
theorem dL_submits_20 : decode cL_submits 20 = .ok (.aload_n 3, 1) := by decide +kernel
theorem dL_submits_21 : decode cL_submits 21 = .ok (.bipush 8, 2) := by decide +kernel
theorem dL_submits_23 : decode cL_submits 23 = .ok (.aload_n 3, 1) := by decide +kernel
theorem dL_submits_24 : decode cL_submits 24 = .ok (.bipush 7, 2) := by decide +kernel
theorem dL_submits_26 : decode cL_submits 26 = .ok (.iaload, 1) := by decide +kernel
theorem dL_submits_27 : decode cL_submits 27 = .ok (.iastore, 1) := by decide +kernel
theorem dL_submits_28 : decode cL_submits 28 = .ok (.aload 8, 2) := by decide +kernel
theorem dL_submits_30 : decode cL_submits 30 = .ok (.aload_n 3, 1) := by decide +kernel
theorem dL_submits_31 : decode cL_submits 31 = .ok (.bipush 7, 2) := by decide +kernel
theorem dL_submits_33 : decode cL_submits 33 = .ok (.iaload, 1) := by decide +kernel
theorem dL_submits_34 : decode cL_submits 34 = .ok (.iconst 1, 1) := by decide +kernel
theorem dL_submits_35 : decode cL_submits 35 = .ok (.iastore, 1) := by decide +kernel
theorem dL_submits_36 : decode cL_submits 36 = .ok (.aload 9, 2) := by decide +kernel
theorem dL_submits_38 : decode cL_submits 38 = .ok (.aload_n 3, 1) := by decide +kernel
theorem dL_submits_39 : decode cL_submits 39 = .ok (.bipush 7, 2) := by decide +kernel
theorem dL_submits_41 : decode cL_submits 41 = .ok (.iaload, 1) := by decide +kernel
theorem dL_submits_42 : decode cL_submits 42 = .ok (.aload_n 3, 1) := by decide +kernel
theorem dL_submits_43 : decode cL_submits 43 = .ok (.iconst 0, 1) := by decide +kernel
theorem dL_submits_44 : decode cL_submits 44 = .ok (.iaload, 1) := by decide +kernel
theorem dL_submits_45 : decode cL_submits 45 = .ok (.aload_n 3, 1) := by decide +kernel
theorem dL_submits_46 : decode cL_submits 46 = .ok (.iconst 1, 1) := by decide +kernel
theorem dL_submits_47 : decode cL_submits 47 = .ok (.iaload, 1) := by decide +kernel
theorem dL_submits_48 : decode cL_submits 48 = .ok (.iadd, 1) := by decide +kernel
theorem dL_submits_49 : decode cL_submits 49 = .ok (.iastore, 1) := by decide +kernel
theorem dL_submits_50 : decode cL_submits 50 = .ok (.aload_n 3, 1) := by decide +kernel
theorem dL_submits_51 : decode cL_submits 51 = .ok (.bipush 7, 2) := by decide +kernel
theorem dL_submits_53 : decode cL_submits 53 = .ok (.dup2, 1) := by decide +kernel
theorem dL_submits_54 : decode cL_submits 54 = .ok (.iaload, 1) := by decide +kernel
theorem dL_submits_55 : decode cL_submits 55 = .ok (.iconst 1, 1) := by decide +kernel
theorem dL_submits_56 : decode cL_submits 56 = .ok (.iadd, 1) := by decide +kernel
theorem dL_submits_57 : decode cL_submits 57 = .ok (.iastore, 1) := by decide +kernel
theorem dL_submits_58 : decode cL_submits 58 = .ok (.aload_n 3, 1) := by decide +kernel
theorem dL_submits_59 : decode cL_submits 59 = .ok (.bipush 6, 2) := by decide +kernel
theorem dL_submits_61 : decode cL_submits 61 = .ok (.iaload, 1) := by decide +kernel
theorem dL_submits_62 : decode cL_submits 62 = .ok (.istore 10, 2) := by decide +kernel
theorem dL_submits_64 : decode cL_submits 64 = .ok (.aload_n 3, 1) := by decide +kernel
theorem dL_submits_65 : decode cL_submits 65 = .ok (.bipush 6, 2) := by decide +kernel
theorem dL_submits_67 : decode cL_submits 67 = .ok (.dup2, 1) := by decide +kernel
theorem dL_submits_68 : decode cL_submits 68 = .ok (.iaload, 1) := by decide +kernel
theorem dL_submits_69 : decode cL_submits 69 = .ok (.iconst 1, 1) := by decide +kernel
theorem dL_submits_70 : decode cL_submits 70 = .ok (.iadd, 1) := by decide +kernel
theorem dL_submits_71 : decode cL_submits 71 = .ok (.iastore, 1) := by decide +kernel
theorem dL_submits_72 : decode cL_submits 72 = .ok (.aload 4, 2) := by decide +kernel
theorem dL_submits_74 : decode cL_submits 74 = .ok (.iload 10, 2) := by decide +kernel
theorem dL_submits_76 : decode cL_submits 76 = .ok (.iload_n 0, 1) := by decide +kernel
theorem dL_submits_77 : decode cL_submits 77 = .ok (.bipush 16, 2) := by decide +kernel
theorem dL_submits_79 : decode cL_submits 79 = .ok (.iload_n 1, 1) := by decide +kernel
theorem dL_submits_80 : decode cL_submits 80 = .ok (.imul, 1) := by decide +kernel
theorem dL_submits_81 : decode cL_submits 81 = .ok (.iadd, 1) := by decide +kernel
theorem dL_submits_82 : decode cL_submits 82 = .ok (.iload_n 2, 1) := by decide +kernel
theorem dL_submits_83 : decode cL_submits 83 = .ok (.ifCond .eq 9, 3) := by decide +kernel
theorem dL_submits_86 : decode cL_submits 86 = .ok (.sipush 256, 3) := by decide +kernel
theorem dL_submits_89 : decode cL_submits 89 = .ok (.goto 4, 3) := by decide +kernel
theorem dL_submits_92 : decode cL_submits 92 = .ok (.iconst 0, 1) := by decide +kernel
theorem dL_submits_93 : decode cL_submits 93 = .ok (.iadd, 1) := by decide +kernel
theorem dL_submits_94 : decode cL_submits 94 = .ok (.sipush 512, 3) := by decide +kernel
theorem dL_submits_97 : decode cL_submits 97 = .ok (.iadd, 1) := by decide +kernel
theorem dL_submits_98 : decode cL_submits 98 = .ok (.iastore, 1) := by decide +kernel
theorem dL_submits_99 : decode cL_submits 99 = .ok (.aload 5, 2) := by decide +kernel
theorem dL_submits_101 : decode cL_submits 101 = .ok (.iload 10, 2) := by decide +kernel
theorem dL_submits_103 : decode cL_submits 103 = .ok (.aload_n 3, 1) := by decide +kernel
theorem dL_submits_104 : decode cL_submits 104 = .ok (.iconst 0, 1) := by decide +kernel
theorem dL_submits_105 : decode cL_submits 105 = .ok (.iaload, 1) := by decide +kernel
theorem dL_submits_106 : decode cL_submits 106 = .ok (.iastore, 1) := by decide +kernel
theorem dL_submits_107 : decode cL_submits 107 = .ok (.aload 6, 2) := by decide +kernel
theorem dL_submits_109 : decode cL_submits 109 = .ok (.iload 10, 2) := by decide +kernel
theorem dL_submits_111 : decode cL_submits 111 = .ok (.bipush (-5), 2) := by decide +kernel
theorem dL_submits_113 : decode cL_submits 113 = .ok (.iastore, 1) := by decide +kernel
theorem dL_submits_114 : decode cL_submits 114 = .ok (.aload 7, 2) := by decide +kernel
theorem dL_submits_116 : decode cL_submits 116 = .ok (.iload 10, 2) := by decide +kernel
theorem dL_submits_118 : decode cL_submits 118 = .ok (.iconst 2, 1) := by decide +kernel
theorem dL_submits_119 : decode cL_submits 119 = .ok (.aload_n 3, 1) := by decide +kernel
theorem dL_submits_120 : decode cL_submits 120 = .ok (.bipush 8, 2) := by decide +kernel
theorem dL_submits_122 : decode cL_submits 122 = .ok (.iaload, 1) := by decide +kernel
theorem dL_submits_123 : decode cL_submits 123 = .ok (.imul, 1) := by decide +kernel
theorem dL_submits_124 : decode cL_submits 124 = .ok (.iastore, 1) := by decide +kernel
theorem dL_submits_125 : decode cL_submits 125 = .ok (.iload_n 2, 1) := by decide +kernel
theorem dL_submits_126 : decode cL_submits 126 = .ok (.ifCond .eq 7, 3) := by decide +kernel
theorem dL_submits_129 : decode cL_submits 129 = .ok (.iconst 1, 1) := by decide +kernel
theorem dL_submits_130 : decode cL_submits 130 = .ok (.goto 47, 3) := by decide +kernel
theorem dL_submits_133 : decode cL_submits 133 = .ok (.aload_n 3, 1) := by decide +kernel
theorem dL_submits_134 : decode cL_submits 134 = .ok (.bipush 8, 2) := by decide +kernel
theorem dL_submits_136 : decode cL_submits 136 = .ok (.iaload, 1) := by decide +kernel
theorem dL_submits_137 : decode cL_submits 137 = .ok (.aload_n 3, 1) := by decide +kernel
theorem dL_submits_138 : decode cL_submits 138 = .ok (.aload 4, 2) := by decide +kernel
theorem dL_submits_140 : decode cL_submits 140 = .ok (.aload 7, 2) := by decide +kernel
theorem dL_submits_142 : decode cL_submits 142 = .ok (.invokestatic 23, 3) := by decide +kernel
theorem dL_submits_145 : decode cL_submits 145 = .ok (.sipush 1000, 3) := by decide +kernel
theorem dL_submits_148 : decode cL_submits 148 = .ok (.idiv, 1) := by decide +kernel
theorem dL_submits_149 : decode cL_submits 149 = .ok (.aload_n 3, 1) := by decide +kernel
theorem dL_submits_150 : decode cL_submits 150 = .ok (.iconst 3, 1) := by decide +kernel
theorem dL_submits_151 : decode cL_submits 151 = .ok (.iaload, 1) := by decide +kernel
theorem dL_submits_152 : decode cL_submits 152 = .ok (.if_icmp .lt 7, 3) := by decide +kernel
theorem dL_submits_155 : decode cL_submits 155 = .ok (.iconst 2, 1) := by decide +kernel
theorem dL_submits_156 : decode cL_submits 156 = .ok (.goto 21, 3) := by decide +kernel
theorem dL_submits_159 : decode cL_submits 159 = .ok (.aload 9, 2) := by decide +kernel
theorem dL_submits_161 : decode cL_submits 161 = .ok (.aload_n 3, 1) := by decide +kernel
theorem dL_submits_162 : decode cL_submits 162 = .ok (.bipush 8, 2) := by decide +kernel
theorem dL_submits_164 : decode cL_submits 164 = .ok (.iaload, 1) := by decide +kernel
theorem dL_submits_165 : decode cL_submits 165 = .ok (.iaload, 1) := by decide +kernel
theorem dL_submits_166 : decode cL_submits 166 = .ok (.aload_n 3, 1) := by decide +kernel
theorem dL_submits_167 : decode cL_submits 167 = .ok (.iconst 0, 1) := by decide +kernel
theorem dL_submits_168 : decode cL_submits 168 = .ok (.iaload, 1) := by decide +kernel
theorem dL_submits_169 : decode cL_submits 169 = .ok (.if_icmp .gt 7, 3) := by decide +kernel
theorem dL_submits_172 : decode cL_submits 172 = .ok (.iconst 3, 1) := by decide +kernel
theorem dL_submits_173 : decode cL_submits 173 = .ok (.goto 4, 3) := by decide +kernel
theorem dL_submits_176 : decode cL_submits 176 = .ok (.iconst 0, 1) := by decide +kernel
theorem dL_submits_177 : decode cL_submits 177 = .ok (.istore 11, 2) := by decide +kernel
theorem dL_submits_179 : decode cL_submits 179 = .ok (.iload 11, 2) := by decide +kernel
theorem dL_submits_181 : decode cL_submits 181 = .ok (.ifCond .le 15, 3) := by decide +kernel
theorem dL_submits_184 : decode cL_submits 184 = .ok (.iload 11, 2) := by decide +kernel
theorem dL_submits_186 : decode cL_submits 186 = .ok (.aload_n 3, 1) := by decide +kernel
theorem dL_submits_187 : decode cL_submits 187 = .ok (.aload 4, 2) := by decide +kernel
theorem dL_submits_189 : decode cL_submits 189 = .ok (.aload 7, 2) := by decide +kernel
theorem dL_submits_191 : decode cL_submits 191 = .ok (.aload 8, 2) := by decide +kernel
theorem dL_submits_193 : decode cL_submits 193 = .ok (.invokestatic 35, 3) := by decide +kernel
theorem dL_submits_196 : decode cL_submits 196 = .ok (.iload 10, 2) := by decide +kernel
theorem dL_submits_198 : decode cL_submits 198 = .ok (.ireturn, 1) := by decide +kernel
theorem dL_outs_0 : decode cL_outs 0 = .ok (.aload_n 2, 1) := by decide +kernel
theorem dL_outs_1 : decode cL_outs 1 = .ok (.bipush 8, 2) := by decide +kernel
theorem dL_outs_3 : decode cL_outs 3 = .ok (.iaload, 1) := by decide +kernel
theorem dL_outs_4 : decode cL_outs 4 = .ok (.istore 7, 2) := by decide +kernel
theorem dL_outs_6 : decode cL_outs 6 = .ok (.iload 7, 2) := by decide +kernel
theorem dL_outs_8 : decode cL_outs 8 = .ok (.aload_n 2, 1) := by decide +kernel
theorem dL_outs_9 : decode cL_outs 9 = .ok (.aload 4, 2) := by decide +kernel
theorem dL_outs_11 : decode cL_outs 11 = .ok (.invokestatic 43, 3) := by decide +kernel
theorem dL_outs_14 : decode cL_outs 14 = .ok (.iload_n 0, 1) := by decide +kernel
theorem dL_outs_15 : decode cL_outs 15 = .ok (.if_icmp .ne 7, 3) := by decide +kernel
theorem dL_outs_18 : decode cL_outs 18 = .ok (.iconst 1, 1) := by decide +kernel
theorem dL_outs_19 : decode cL_outs 19 = .ok (.goto 4, 3) := by decide +kernel
theorem dL_outs_22 : decode cL_outs 22 = .ok (.iconst 0, 1) := by decide +kernel
theorem dL_outs_23 : decode cL_outs 23 = .ok (.istore 8, 2) := by decide +kernel
theorem dL_outs_25 : decode cL_outs 25 = .ok (.iload_n 0, 1) := by decide +kernel
theorem dL_outs_26 : decode cL_outs 26 = .ok (.iload_n 1, 1) := by decide +kernel
theorem dL_outs_27 : decode cL_outs 27 = .ok (.aload_n 3, 1) := by decide +kernel
theorem dL_outs_28 : decode cL_outs 28 = .ok (.invokestatic 19, 3) := by decide +kernel
theorem dL_outs_31 : decode cL_outs 31 = .ok (.aload 4, 2) := by decide +kernel
theorem dL_outs_33 : decode cL_outs 33 = .ok (.iload_n 0, 1) := by decide +kernel
theorem dL_outs_34 : decode cL_outs 34 = .ok (.dup2, 1) := by decide +kernel
theorem dL_outs_35 : decode cL_outs 35 = .ok (.iaload, 1) := by decide +kernel
theorem dL_outs_36 : decode cL_outs 36 = .ok (.iconst 1, 1) := by decide +kernel
theorem dL_outs_37 : decode cL_outs 37 = .ok (.iadd, 1) := by decide +kernel
theorem dL_outs_38 : decode cL_outs 38 = .ok (.iastore, 1) := by decide +kernel
theorem dL_outs_39 : decode cL_outs 39 = .ok (.iload 7, 2) := by decide +kernel
theorem dL_outs_41 : decode cL_outs 41 = .ok (.aload_n 2, 1) := by decide +kernel
theorem dL_outs_42 : decode cL_outs 42 = .ok (.aload_n 3, 1) := by decide +kernel
theorem dL_outs_43 : decode cL_outs 43 = .ok (.aload 4, 2) := by decide +kernel
theorem dL_outs_45 : decode cL_outs 45 = .ok (.invokestatic 23, 3) := by decide +kernel
theorem dL_outs_48 : decode cL_outs 48 = .ok (.ifCond .ne 18, 3) := by decide +kernel
theorem dL_outs_51 : decode cL_outs 51 = .ok (.aload 5, 2) := by decide +kernel
theorem dL_outs_53 : decode cL_outs 53 = .ok (.iload 7, 2) := by decide +kernel
theorem dL_outs_55 : decode cL_outs 55 = .ok (.iconst 5, 1) := by decide +kernel
theorem dL_outs_56 : decode cL_outs 56 = .ok (.iastore, 1) := by decide +kernel
theorem dL_outs_57 : decode cL_outs 57 = .ok (.aload_n 2, 1) := by decide +kernel
theorem dL_outs_58 : decode cL_outs 58 = .ok (.bipush 8, 2) := by decide +kernel
theorem dL_outs_60 : decode cL_outs 60 = .ok (.bipush (-5), 2) := by decide +kernel
theorem dL_outs_62 : decode cL_outs 62 = .ok (.iastore, 1) := by decide +kernel
theorem dL_outs_63 : decode cL_outs 63 = .ok (.goto 20, 3) := by decide +kernel
theorem dL_outs_66 : decode cL_outs 66 = .ok (.iload 8, 2) := by decide +kernel
theorem dL_outs_68 : decode cL_outs 68 = .ok (.ifCond .eq 15, 3) := by decide +kernel
theorem dL_outs_71 : decode cL_outs 71 = .ok (.aload 6, 2) := by decide +kernel
theorem dL_outs_73 : decode cL_outs 73 = .ok (.iload 7, 2) := by decide +kernel
theorem dL_outs_75 : decode cL_outs 75 = .ok (.aload_n 2, 1) := by decide +kernel
theorem dL_outs_76 : decode cL_outs 76 = .ok (.iconst 0, 1) := by decide +kernel
theorem dL_outs_77 : decode cL_outs 77 = .ok (.iaload, 1) := by decide +kernel
theorem dL_outs_78 : decode cL_outs 78 = .ok (.aload_n 2, 1) := by decide +kernel
theorem dL_outs_79 : decode cL_outs 79 = .ok (.iconst 1, 1) := by decide +kernel
theorem dL_outs_80 : decode cL_outs 80 = .ok (.iaload, 1) := by decide +kernel
theorem dL_outs_81 : decode cL_outs 81 = .ok (.iadd, 1) := by decide +kernel
theorem dL_outs_82 : decode cL_outs 82 = .ok (.iastore, 1) := by decide +kernel
theorem dL_outs_83 : decode cL_outs 83 = .ok (.return_, 1) := by decide +kernel
theorem dL_due_0 : decode cL_due 0 = .ok (.iload_n 0, 1) := by decide +kernel
theorem dL_due_1 : decode cL_due 1 = .ok (.iconst 2, 1) := by decide +kernel
theorem dL_due_2 : decode cL_due 2 = .ok (.if_icmp .ge 32, 3) := by decide +kernel
theorem dL_due_5 : decode cL_due 5 = .ok (.iload_n 1, 1) := by decide +kernel
theorem dL_due_6 : decode cL_due 6 = .ok (.iload_n 2, 1) := by decide +kernel
theorem dL_due_7 : decode cL_due 7 = .ok (.iload_n 0, 1) := by decide +kernel
theorem dL_due_8 : decode cL_due 8 = .ok (.iconst 1, 1) := by decide +kernel
theorem dL_due_9 : decode cL_due 9 = .ok (.if_icmp .ne 7, 3) := by decide +kernel
theorem dL_due_12 : decode cL_due 12 = .ok (.iconst 1, 1) := by decide +kernel
theorem dL_due_13 : decode cL_due 13 = .ok (.goto 4, 3) := by decide +kernel
theorem dL_due_16 : decode cL_due 16 = .ok (.iconst 0, 1) := by decide +kernel
theorem dL_due_17 : decode cL_due 17 = .ok (.aload_n 3, 1) := by decide +kernel
theorem dL_due_18 : decode cL_due 18 = .ok (.aload 4, 2) := by decide +kernel
theorem dL_due_20 : decode cL_due 20 = .ok (.aload 5, 2) := by decide +kernel
theorem dL_due_22 : decode cL_due 22 = .ok (.aload 6, 2) := by decide +kernel
theorem dL_due_24 : decode cL_due 24 = .ok (.aload 7, 2) := by decide +kernel
theorem dL_due_26 : decode cL_due 26 = .ok (.aload 8, 2) := by decide +kernel
theorem dL_due_28 : decode cL_due 28 = .ok (.aload 9, 2) := by decide +kernel
theorem dL_due_30 : decode cL_due 30 = .ok (.invokestatic 46, 3) := by decide +kernel
theorem dL_due_33 : decode cL_due 33 = .ok (.ireturn, 1) := by decide +kernel
theorem dL_due_34 : decode cL_due 34 = .ok (.iload_n 0, 1) := by decide +kernel
theorem dL_due_35 : decode cL_due 35 = .ok (.iconst 2, 1) := by decide +kernel
theorem dL_due_36 : decode cL_due 36 = .ok (.if_icmp .ne 21, 3) := by decide +kernel
theorem dL_due_39 : decode cL_due 39 = .ok (.iload_n 1, 1) := by decide +kernel
theorem dL_due_40 : decode cL_due 40 = .ok (.aload_n 3, 1) := by decide +kernel
theorem dL_due_41 : decode cL_due 41 = .ok (.aload 4, 2) := by decide +kernel
theorem dL_due_43 : decode cL_due 43 = .ok (.aload 5, 2) := by decide +kernel
theorem dL_due_45 : decode cL_due 45 = .ok (.aload 6, 2) := by decide +kernel
theorem dL_due_47 : decode cL_due 47 = .ok (.aload 7, 2) := by decide +kernel
theorem dL_due_49 : decode cL_due 49 = .ok (.aload 8, 2) := by decide +kernel
theorem dL_due_51 : decode cL_due 51 = .ok (.aload 9, 2) := by decide +kernel
theorem dL_due_53 : decode cL_due 53 = .ok (.invokestatic 50, 3) := by decide +kernel
theorem dL_due_56 : decode cL_due 56 = .ok (.ireturn, 1) := by decide +kernel
theorem dL_due_57 : decode cL_due 57 = .ok (.iload_n 0, 1) := by decide +kernel
theorem dL_due_58 : decode cL_due 58 = .ok (.iconst 5, 1) := by decide +kernel
theorem dL_due_59 : decode cL_due 59 = .ok (.if_icmp .ne 19, 3) := by decide +kernel
theorem dL_due_62 : decode cL_due 62 = .ok (.aload_n 3, 1) := by decide +kernel
theorem dL_due_63 : decode cL_due 63 = .ok (.iconst 2, 1) := by decide +kernel
theorem dL_due_64 : decode cL_due 64 = .ok (.iload_n 1, 1) := by decide +kernel
theorem dL_due_65 : decode cL_due 65 = .ok (.iadd, 1) := by decide +kernel
theorem dL_due_66 : decode cL_due 66 = .ok (.iaload, 1) := by decide +kernel
theorem dL_due_67 : decode cL_due 67 = .ok (.istore 10, 2) := by decide +kernel
theorem dL_due_69 : decode cL_due 69 = .ok (.aload_n 3, 1) := by decide +kernel
theorem dL_due_70 : decode cL_due 70 = .ok (.iconst 2, 1) := by decide +kernel
theorem dL_due_71 : decode cL_due 71 = .ok (.iload_n 1, 1) := by decide +kernel
theorem dL_due_72 : decode cL_due 72 = .ok (.iadd, 1) := by decide +kernel
theorem dL_due_73 : decode cL_due 73 = .ok (.iload_n 2, 1) := by decide +kernel
theorem dL_due_74 : decode cL_due 74 = .ok (.iastore, 1) := by decide +kernel
theorem dL_due_75 : decode cL_due 75 = .ok (.iload 10, 2) := by decide +kernel
theorem dL_due_77 : decode cL_due 77 = .ok (.ireturn, 1) := by decide +kernel
theorem dL_due_78 : decode cL_due 78 = .ok (.iload_n 0, 1) := by decide +kernel
theorem dL_due_79 : decode cL_due 79 = .ok (.bipush 6, 2) := by decide +kernel
theorem dL_due_81 : decode cL_due 81 = .ok (.if_icmp .ne 91, 3) := by decide +kernel
theorem dL_due_84 : decode cL_due 84 = .ok (.iconst 0, 1) := by decide +kernel
theorem dL_due_85 : decode cL_due 85 = .ok (.istore 10, 2) := by decide +kernel
theorem dL_due_87 : decode cL_due 87 = .ok (.iconst 0, 1) := by decide +kernel
theorem dL_due_88 : decode cL_due 88 = .ok (.istore 11, 2) := by decide +kernel
theorem dL_due_90 : decode cL_due 90 = .ok (.iload 11, 2) := by decide +kernel
theorem dL_due_92 : decode cL_due 92 = .ok (.aload_n 3, 1) := by decide +kernel
theorem dL_due_93 : decode cL_due 93 = .ok (.bipush 7, 2) := by decide +kernel
theorem dL_due_95 : decode cL_due 95 = .ok (.iaload, 1) := by decide +kernel
theorem dL_due_96 : decode cL_due 96 = .ok (.if_icmp .ge 52, 3) := by decide +kernel
theorem dL_due_99 : decode cL_due 99 = .ok (.aload 8, 2) := by decide +kernel
theorem dL_due_101 : decode cL_due 101 = .ok (.iload 11, 2) := by decide +kernel
theorem dL_due_103 : decode cL_due 103 = .ok (.iaload, 1) := by decide +kernel
theorem dL_due_104 : decode cL_due 104 = .ok (.bipush 7, 2) := by decide +kernel
theorem dL_due_106 : decode cL_due 106 = .ok (.iand, 1) := by decide +kernel
theorem dL_due_107 : decode cL_due 107 = .ok (.iconst 4, 1) := by decide +kernel
theorem dL_due_108 : decode cL_due 108 = .ok (.if_icmp .ge 34, 3) := by decide +kernel
theorem dL_due_111 : decode cL_due 111 = .ok (.iload 10, 2) := by decide +kernel
theorem dL_due_113 : decode cL_due 113 = .ok (.iload 11, 2) := by decide +kernel
theorem dL_due_115 : decode cL_due 115 = .ok (.iconst 5, 1) := by decide +kernel
theorem dL_due_116 : decode cL_due 116 = .ok (.aload_n 3, 1) := by decide +kernel
theorem dL_due_117 : decode cL_due 117 = .ok (.aload 4, 2) := by decide +kernel
theorem dL_due_119 : decode cL_due 119 = .ok (.aload 7, 2) := by decide +kernel
theorem dL_due_121 : decode cL_due 121 = .ok (.invokestatic 27, 3) := by decide +kernel
theorem dL_due_124 : decode cL_due 124 = .ok (.iadd, 1) := by decide +kernel
theorem dL_due_125 : decode cL_due 125 = .ok (.istore 10, 2) := by decide +kernel
theorem dL_due_127 : decode cL_due 127 = .ok (.aload 8, 2) := by decide +kernel
theorem dL_due_129 : decode cL_due 129 = .ok (.iload 11, 2) := by decide +kernel
theorem dL_due_131 : decode cL_due 131 = .ok (.aload 8, 2) := by decide +kernel
theorem dL_due_133 : decode cL_due 133 = .ok (.iload 11, 2) := by decide +kernel
theorem dL_due_135 : decode cL_due 135 = .ok (.iaload, 1) := by decide +kernel
theorem dL_due_136 : decode cL_due 136 = .ok (.bipush (-8), 2) := by decide +kernel
theorem dL_due_138 : decode cL_due 138 = .ok (.iand, 1) := by decide +kernel
theorem dL_due_139 : decode cL_due 139 = .ok (.iconst 5, 1) := by decide +kernel
theorem dL_due_140 : decode cL_due 140 = .ok (.ior, 1) := by decide +kernel
theorem dL_due_141 : decode cL_due 141 = .ok (.iastore, 1) := by decide +kernel
theorem dL_due_142 : decode cL_due 142 = .ok (.iinc 11 1, 3) := by decide +kernel
theorem dL_due_145 : decode cL_due 145 = .ok (.goto (-55), 3) := by decide +kernel
theorem dL_due_148 : decode cL_due 148 = .ok (.aload_n 3, 1) := by decide +kernel
theorem dL_due_149 : decode cL_due 149 = .ok (.bipush 8, 2) := by decide +kernel
theorem dL_due_151 : decode cL_due 151 = .ok (.bipush (-5), 2) := by decide +kernel
theorem dL_due_153 : decode cL_due 153 = .ok (.iastore, 1) := by decide +kernel
theorem dL_due_154 : decode cL_due 154 = .ok (.aload_n 3, 1) := by decide +kernel
theorem dL_due_155 : decode cL_due 155 = .ok (.bipush 9, 2) := by decide +kernel
theorem dL_due_157 : decode cL_due 157 = .ok (.bipush (-5), 2) := by decide +kernel
theorem dL_due_159 : decode cL_due 159 = .ok (.iastore, 1) := by decide +kernel
theorem dL_due_160 : decode cL_due 160 = .ok (.aload_n 3, 1) := by decide +kernel
theorem dL_due_161 : decode cL_due 161 = .ok (.bipush 12, 2) := by decide +kernel
theorem dL_due_163 : decode cL_due 163 = .ok (.dup2, 1) := by decide +kernel
theorem dL_due_164 : decode cL_due 164 = .ok (.iaload, 1) := by decide +kernel
theorem dL_due_165 : decode cL_due 165 = .ok (.iload 10, 2) := by decide +kernel
theorem dL_due_167 : decode cL_due 167 = .ok (.iadd, 1) := by decide +kernel
theorem dL_due_168 : decode cL_due 168 = .ok (.iastore, 1) := by decide +kernel
theorem dL_due_169 : decode cL_due 169 = .ok (.iload 10, 2) := by decide +kernel
theorem dL_due_171 : decode cL_due 171 = .ok (.ireturn, 1) := by decide +kernel
theorem dL_due_172 : decode cL_due 172 = .ok (.iload_n 1, 1) := by decide +kernel
theorem dL_due_173 : decode cL_due 173 = .ok (.aload_n 3, 1) := by decide +kernel
theorem dL_due_174 : decode cL_due 174 = .ok (.aload 4, 2) := by decide +kernel
theorem dL_due_176 : decode cL_due 176 = .ok (.invokestatic 39, 3) := by decide +kernel
theorem dL_due_179 : decode cL_due 179 = .ok (.istore 10, 2) := by decide +kernel
theorem dL_due_181 : decode cL_due 181 = .ok (.iload 10, 2) := by decide +kernel
theorem dL_due_183 : decode cL_due 183 = .ok (.ifCond .lt 18, 3) := by decide +kernel
theorem dL_due_186 : decode cL_due 186 = .ok (.iload 10, 2) := by decide +kernel
theorem dL_due_188 : decode cL_due 188 = .ok (.aload 4, 2) := by decide +kernel
theorem dL_due_190 : decode cL_due 190 = .ok (.invokestatic 16, 3) := by decide +kernel
theorem dL_due_193 : decode cL_due 193 = .ok (.iconst 1, 1) := by decide +kernel
theorem dL_due_194 : decode cL_due 194 = .ok (.if_icmp .ne 7, 3) := by decide +kernel
theorem dL_due_197 : decode cL_due 197 = .ok (.iconst 1, 1) := by decide +kernel
theorem dL_due_198 : decode cL_due 198 = .ok (.goto 4, 3) := by decide +kernel
theorem dL_due_201 : decode cL_due 201 = .ok (.iconst 0, 1) := by decide +kernel
theorem dL_due_202 : decode cL_due 202 = .ok (.istore 11, 2) := by decide +kernel
theorem dL_due_204 : decode cL_due 204 = .ok (.iload_n 0, 1) := by decide +kernel
theorem dL_due_205 : decode cL_due 205 = .ok (.iconst 4, 1) := by decide +kernel
theorem dL_due_206 : decode cL_due 206 = .ok (.if_icmp .ne 56, 3) := by decide +kernel
theorem dL_due_209 : decode cL_due 209 = .ok (.iload 11, 2) := by decide +kernel
theorem dL_due_211 : decode cL_due 211 = .ok (.ifCond .ne 6, 3) := by decide +kernel
theorem dL_due_214 : decode cL_due 214 = .ok (.bipush (-4), 2) := by decide +kernel
theorem dL_due_216 : decode cL_due 216 = .ok (.ireturn, 1) := by decide +kernel
theorem dL_due_217 : decode cL_due 217 = .ok (.aload_n 3, 1) := by decide +kernel
theorem dL_due_218 : decode cL_due 218 = .ok (.bipush 8, 2) := by decide +kernel
theorem dL_due_220 : decode cL_due 220 = .ok (.iaload, 1) := by decide +kernel
theorem dL_due_221 : decode cL_due 221 = .ok (.istore 12, 2) := by decide +kernel
theorem dL_due_223 : decode cL_due 223 = .ok (.iload 10, 2) := by decide +kernel
theorem dL_due_225 : decode cL_due 225 = .ok (.bipush 6, 2) := by decide +kernel
theorem dL_due_227 : decode cL_due 227 = .ok (.aload_n 3, 1) := by decide +kernel
theorem dL_due_228 : decode cL_due 228 = .ok (.aload 4, 2) := by decide +kernel
theorem dL_due_230 : decode cL_due 230 = .ok (.aload 7, 2) := by decide +kernel
theorem dL_due_232 : decode cL_due 232 = .ok (.aload 8, 2) := by decide +kernel
theorem dL_due_234 : decode cL_due 234 = .ok (.aload 9, 2) := by decide +kernel
theorem dL_due_236 : decode cL_due 236 = .ok (.invokestatic 54, 3) := by decide +kernel
theorem dL_due_239 : decode cL_due 239 = .ok (.aload_n 3, 1) := by decide +kernel
theorem dL_due_240 : decode cL_due 240 = .ok (.bipush 13, 2) := by decide +kernel
theorem dL_due_242 : decode cL_due 242 = .ok (.dup2, 1) := by decide +kernel
theorem dL_due_243 : decode cL_due 243 = .ok (.iaload, 1) := by decide +kernel
theorem dL_due_244 : decode cL_due 244 = .ok (.iconst 1, 1) := by decide +kernel
theorem dL_due_245 : decode cL_due 245 = .ok (.iadd, 1) := by decide +kernel
theorem dL_due_246 : decode cL_due 246 = .ok (.iastore, 1) := by decide +kernel
theorem dL_due_247 : decode cL_due 247 = .ok (.iload 12, 2) := by decide +kernel
theorem dL_due_249 : decode cL_due 249 = .ok (.aload_n 3, 1) := by decide +kernel
theorem dL_due_250 : decode cL_due 250 = .ok (.aload 4, 2) := by decide +kernel
theorem dL_due_252 : decode cL_due 252 = .ok (.aload 7, 2) := by decide +kernel
theorem dL_due_254 : decode cL_due 254 = .ok (.invokestatic 23, 3) := by decide +kernel
theorem dL_due_257 : decode cL_due 257 = .ok (.sipush 1000, 3) := by decide +kernel
theorem dL_due_260 : decode cL_due 260 = .ok (.irem, 1) := by decide +kernel
theorem dL_due_261 : decode cL_due 261 = .ok (.ireturn, 1) := by decide +kernel
theorem dL_due_262 : decode cL_due 262 = .ok (.iload 11, 2) := by decide +kernel
theorem dL_due_264 : decode cL_due 264 = .ok (.ifCond .eq 21, 3) := by decide +kernel
theorem dL_due_267 : decode cL_due 267 = .ok (.iload 10, 2) := by decide +kernel
theorem dL_due_269 : decode cL_due 269 = .ok (.iconst 5, 1) := by decide +kernel
theorem dL_due_270 : decode cL_due 270 = .ok (.aload_n 3, 1) := by decide +kernel
theorem dL_due_271 : decode cL_due 271 = .ok (.aload 4, 2) := by decide +kernel
theorem dL_due_273 : decode cL_due 273 = .ok (.aload 7, 2) := by decide +kernel
theorem dL_due_275 : decode cL_due 275 = .ok (.aload 8, 2) := by decide +kernel
theorem dL_due_277 : decode cL_due 277 = .ok (.aload 9, 2) := by decide +kernel
theorem dL_due_279 : decode cL_due 279 = .ok (.invokestatic 54, 3) := by decide +kernel
theorem dL_due_282 : decode cL_due 282 = .ok (.goto 16, 3) := by decide +kernel
theorem dL_due_285 : decode cL_due 285 = .ok (.iload 10, 2) := by decide +kernel
theorem dL_due_287 : decode cL_due 287 = .ok (.ifCond .lt 11, 3) := by decide +kernel
theorem dL_due_290 : decode cL_due 290 = .ok (.iload 10, 2) := by decide +kernel
theorem dL_due_292 : decode cL_due 292 = .ok (.iconst 5, 1) := by decide +kernel
theorem dL_due_293 : decode cL_due 293 = .ok (.aload 4, 2) := by decide +kernel
theorem dL_due_295 : decode cL_due 295 = .ok (.invokestatic 19, 3) := by decide +kernel
theorem dL_due_298 : decode cL_due 298 = .ok (.aload_n 3, 1) := by decide +kernel
theorem dL_due_299 : decode cL_due 299 = .ok (.bipush 12, 2) := by decide +kernel
theorem dL_due_301 : decode cL_due 301 = .ok (.dup2, 1) := by decide +kernel
theorem dL_due_302 : decode cL_due 302 = .ok (.iaload, 1) := by decide +kernel
theorem dL_due_303 : decode cL_due 303 = .ok (.iload 10, 2) := by decide +kernel
theorem dL_due_305 : decode cL_due 305 = .ok (.ifCond .lt 7, 3) := by decide +kernel
theorem dL_due_308 : decode cL_due 308 = .ok (.iconst 1, 1) := by decide +kernel
theorem dL_due_309 : decode cL_due 309 = .ok (.goto 4, 3) := by decide +kernel
theorem dL_due_312 : decode cL_due 312 = .ok (.iconst 0, 1) := by decide +kernel
theorem dL_due_313 : decode cL_due 313 = .ok (.iadd, 1) := by decide +kernel
theorem dL_due_314 : decode cL_due 314 = .ok (.iastore, 1) := by decide +kernel
theorem dL_due_315 : decode cL_due 315 = .ok (.iload 10, 2) := by decide +kernel
theorem dL_due_317 : decode cL_due 317 = .ok (.ireturn, 1) := by decide +kernel
theorem dL_call_0 : decode cL_call 0 = .ok (.iload_n 1, 1) := by decide +kernel
theorem dL_call_1 : decode cL_call 1 = .ok (.tableswitch 81 0 5 #[39, 39, 56, 62, 68, 74], 39) := by decide +kernel
theorem dL_call_40 : decode cL_call 40 = .ok (.aload_n 0, 1) := by decide +kernel
theorem dL_call_41 : decode cL_call 41 = .ok (.iload_n 2, 1) := by decide +kernel
theorem dL_call_42 : decode cL_call 42 = .ok (.iload_n 3, 1) := by decide +kernel
theorem dL_call_43 : decode cL_call 43 = .ok (.iload_n 1, 1) := by decide +kernel
theorem dL_call_44 : decode cL_call 44 = .ok (.iconst 1, 1) := by decide +kernel
theorem dL_call_45 : decode cL_call 45 = .ok (.if_icmp .ne 7, 3) := by decide +kernel
theorem dL_call_48 : decode cL_call 48 = .ok (.iconst 1, 1) := by decide +kernel
theorem dL_call_49 : decode cL_call 49 = .ok (.goto 4, 3) := by decide +kernel
theorem dL_call_52 : decode cL_call 52 = .ok (.iconst 0, 1) := by decide +kernel
theorem dL_call_53 : decode cL_call 53 = .ok (.invokevirtual 58, 3) := by decide +kernel
theorem dL_call_56 : decode cL_call 56 = .ok (.ireturn, 1) := by decide +kernel
theorem dL_call_57 : decode cL_call 57 = .ok (.aload_n 0, 1) := by decide +kernel
theorem dL_call_58 : decode cL_call 58 = .ok (.iload_n 2, 1) := by decide +kernel
theorem dL_call_59 : decode cL_call 59 = .ok (.invokevirtual 64, 3) := by decide +kernel
theorem dL_call_62 : decode cL_call 62 = .ok (.ireturn, 1) := by decide +kernel
theorem dL_call_63 : decode cL_call 63 = .ok (.aload_n 0, 1) := by decide +kernel
theorem dL_call_64 : decode cL_call 64 = .ok (.iload_n 2, 1) := by decide +kernel
theorem dL_call_65 : decode cL_call 65 = .ok (.invokevirtual 68, 3) := by decide +kernel
theorem dL_call_68 : decode cL_call 68 = .ok (.ireturn, 1) := by decide +kernel
theorem dL_call_69 : decode cL_call 69 = .ok (.aload_n 0, 1) := by decide +kernel
theorem dL_call_70 : decode cL_call 70 = .ok (.iload_n 2, 1) := by decide +kernel
theorem dL_call_71 : decode cL_call 71 = .ok (.invokevirtual 71, 3) := by decide +kernel
theorem dL_call_74 : decode cL_call 74 = .ok (.ireturn, 1) := by decide +kernel
theorem dL_call_75 : decode cL_call 75 = .ok (.aload_n 0, 1) := by decide +kernel
theorem dL_call_76 : decode cL_call 76 = .ok (.iload_n 2, 1) := by decide +kernel
theorem dL_call_77 : decode cL_call 77 = .ok (.iload_n 3, 1) := by decide +kernel
theorem dL_call_78 : decode cL_call 78 = .ok (.invokevirtual 74, 3) := by decide +kernel
theorem dL_call_81 : decode cL_call 81 = .ok (.ireturn, 1) := by decide +kernel
theorem dL_call_82 : decode cL_call 82 = .ok (.aload_n 0, 1) := by decide +kernel
theorem dL_call_83 : decode cL_call 83 = .ok (.invokevirtual 78, 3) := by decide +kernel
theorem dL_call_86 : decode cL_call 86 = .ok (.ireturn, 1) := by decide +kernel
theorem dL_told_0 : decode cL_told 0 = .ok (.ldc2_w 82, 3) := by decide +kernel
theorem dL_told_3 : decode cL_told 3 = .ok (.lstore_n 1, 1) := by decide +kernel
theorem dL_told_4 : decode cL_told 4 = .ok (.iconst 0, 1) := by decide +kernel
theorem dL_told_5 : decode cL_told 5 = .ok (.istore_n 3, 1) := by decide +kernel
theorem dL_told_6 : decode cL_told 6 = .ok (.iload_n 3, 1) := by decide +kernel
theorem dL_told_7 : decode cL_told 7 = .ok (.bipush 10, 2) := by decide +kernel
theorem dL_told_9 : decode cL_told 9 = .ok (.if_icmp .ge 22, 3) := by decide +kernel
theorem dL_told_12 : decode cL_told 12 = .ok (.ldc2_w 84, 3) := by decide +kernel
theorem dL_told_15 : decode cL_told 15 = .ok (.lload_n 1, 1) := by decide +kernel
theorem dL_told_16 : decode cL_told 16 = .ok (.lmul, 1) := by decide +kernel
theorem dL_told_17 : decode cL_told 17 = .ok (.aload_n 0, 1) := by decide +kernel
theorem dL_told_18 : decode cL_told 18 = .ok (.iload_n 3, 1) := by decide +kernel
theorem dL_told_19 : decode cL_told 19 = .ok (.invokevirtual 86, 3) := by decide +kernel
theorem dL_told_22 : decode cL_told 22 = .ok (.i2l, 1) := by decide +kernel
theorem dL_told_23 : decode cL_told 23 = .ok (.ladd, 1) := by decide +kernel
theorem dL_told_24 : decode cL_told 24 = .ok (.lstore_n 1, 1) := by decide +kernel
theorem dL_told_25 : decode cL_told 25 = .ok (.iinc 3 1, 3) := by decide +kernel
theorem dL_told_28 : decode cL_told 28 = .ok (.goto (-22), 3) := by decide +kernel
theorem dL_told_31 : decode cL_told 31 = .ok (.iconst 0, 1) := by decide +kernel
theorem dL_told_32 : decode cL_told 32 = .ok (.istore_n 3, 1) := by decide +kernel
theorem dL_told_33 : decode cL_told 33 = .ok (.iload_n 3, 1) := by decide +kernel
theorem dL_told_34 : decode cL_told 34 = .ok (.bipush 8, 2) := by decide +kernel
theorem dL_told_36 : decode cL_told 36 = .ok (.if_icmp .ge 22, 3) := by decide +kernel
theorem dL_told_39 : decode cL_told 39 = .ok (.ldc2_w 84, 3) := by decide +kernel
theorem dL_told_42 : decode cL_told 42 = .ok (.lload_n 1, 1) := by decide +kernel
theorem dL_told_43 : decode cL_told 43 = .ok (.lmul, 1) := by decide +kernel
theorem dL_told_44 : decode cL_told 44 = .ok (.aload_n 0, 1) := by decide +kernel
theorem dL_told_45 : decode cL_told 45 = .ok (.iload_n 3, 1) := by decide +kernel
theorem dL_told_46 : decode cL_told 46 = .ok (.invokevirtual 89, 3) := by decide +kernel
theorem dL_told_49 : decode cL_told 49 = .ok (.i2l, 1) := by decide +kernel
theorem dL_told_50 : decode cL_told 50 = .ok (.ladd, 1) := by decide +kernel
theorem dL_told_51 : decode cL_told 51 = .ok (.lstore_n 1, 1) := by decide +kernel
theorem dL_told_52 : decode cL_told 52 = .ok (.iinc 3 1, 3) := by decide +kernel
theorem dL_told_55 : decode cL_told 55 = .ok (.goto (-22), 3) := by decide +kernel
theorem dL_told_58 : decode cL_told 58 = .ok (.iconst 0, 1) := by decide +kernel
theorem dL_told_59 : decode cL_told 59 = .ok (.istore_n 3, 1) := by decide +kernel
theorem dL_told_60 : decode cL_told 60 = .ok (.iload_n 3, 1) := by decide +kernel
theorem dL_told_61 : decode cL_told 61 = .ok (.aload_n 0, 1) := by decide +kernel
theorem dL_told_62 : decode cL_told 62 = .ok (.iconst 0, 1) := by decide +kernel
theorem dL_told_63 : decode cL_told 63 = .ok (.invokevirtual 89, 3) := by decide +kernel
theorem dL_told_66 : decode cL_told 66 = .ok (.if_icmp .ge 48, 3) := by decide +kernel
theorem dL_told_69 : decode cL_told 69 = .ok (.ldc2_w 84, 3) := by decide +kernel
theorem dL_told_72 : decode cL_told 72 = .ok (.lload_n 1, 1) := by decide +kernel
theorem dL_told_73 : decode cL_told 73 = .ok (.lmul, 1) := by decide +kernel
theorem dL_told_74 : decode cL_told 74 = .ok (.ldc2_w 92, 3) := by decide +kernel
theorem dL_told_77 : decode cL_told 77 = .ok (.aload_n 0, 1) := by decide +kernel
theorem dL_told_78 : decode cL_told 78 = .ok (.iload_n 3, 1) := by decide +kernel
theorem dL_told_79 : decode cL_told 79 = .ok (.iconst 3, 1) := by decide +kernel
theorem dL_told_80 : decode cL_told 80 = .ok (.invokevirtual 94, 3) := by decide +kernel
theorem dL_told_83 : decode cL_told 83 = .ok (.i2l, 1) := by decide +kernel
theorem dL_told_84 : decode cL_told 84 = .ok (.lmul, 1) := by decide +kernel
theorem dL_told_85 : decode cL_told 85 = .ok (.ladd, 1) := by decide +kernel
theorem dL_told_86 : decode cL_told 86 = .ok (.ldc2_w 97, 3) := by decide +kernel
theorem dL_told_89 : decode cL_told 89 = .ok (.aload_n 0, 1) := by decide +kernel
theorem dL_told_90 : decode cL_told 90 = .ok (.iload_n 3, 1) := by decide +kernel
theorem dL_told_91 : decode cL_told 91 = .ok (.bipush 6, 2) := by decide +kernel
theorem dL_told_93 : decode cL_told 93 = .ok (.invokevirtual 94, 3) := by decide +kernel
theorem dL_told_96 : decode cL_told 96 = .ok (.i2l, 1) := by decide +kernel
theorem dL_told_97 : decode cL_told 97 = .ok (.lmul, 1) := by decide +kernel
theorem dL_told_98 : decode cL_told 98 = .ok (.ladd, 1) := by decide +kernel
theorem dL_told_99 : decode cL_told 99 = .ok (.aload_n 0, 1) := by decide +kernel
theorem dL_told_100 : decode cL_told 100 = .ok (.iload_n 3, 1) := by decide +kernel
theorem dL_told_101 : decode cL_told 101 = .ok (.iconst 5, 1) := by decide +kernel
theorem dL_told_102 : decode cL_told 102 = .ok (.invokevirtual 94, 3) := by decide +kernel
theorem dL_told_105 : decode cL_told 105 = .ok (.i2l, 1) := by decide +kernel
theorem dL_told_106 : decode cL_told 106 = .ok (.ladd, 1) := by decide +kernel
theorem dL_told_107 : decode cL_told 107 = .ok (.lstore_n 1, 1) := by decide +kernel
theorem dL_told_108 : decode cL_told 108 = .ok (.iinc 3 1, 3) := by decide +kernel
theorem dL_told_111 : decode cL_told 111 = .ok (.goto (-51), 3) := by decide +kernel
theorem dL_told_114 : decode cL_told 114 = .ok (.iconst 0, 1) := by decide +kernel
theorem dL_told_115 : decode cL_told 115 = .ok (.istore_n 3, 1) := by decide +kernel
theorem dL_told_116 : decode cL_told 116 = .ok (.iload_n 3, 1) := by decide +kernel
theorem dL_told_117 : decode cL_told 117 = .ok (.aload_n 0, 1) := by decide +kernel
theorem dL_told_118 : decode cL_told 118 = .ok (.iconst 4, 1) := by decide +kernel
theorem dL_told_119 : decode cL_told 119 = .ok (.invokevirtual 89, 3) := by decide +kernel
theorem dL_told_122 : decode cL_told 122 = .ok (.if_icmp .ge 60, 3) := by decide +kernel
theorem dL_told_125 : decode cL_told 125 = .ok (.ldc2_w 84, 3) := by decide +kernel
theorem dL_told_128 : decode cL_told 128 = .ok (.lload_n 1, 1) := by decide +kernel
theorem dL_told_129 : decode cL_told 129 = .ok (.lmul, 1) := by decide +kernel
theorem dL_told_130 : decode cL_told 130 = .ok (.ldc2_w 99, 3) := by decide +kernel
theorem dL_told_133 : decode cL_told 133 = .ok (.aload_n 0, 1) := by decide +kernel
theorem dL_told_134 : decode cL_told 134 = .ok (.iload_n 3, 1) := by decide +kernel
theorem dL_told_135 : decode cL_told 135 = .ok (.iconst 0, 1) := by decide +kernel
theorem dL_told_136 : decode cL_told 136 = .ok (.invokevirtual 101, 3) := by decide +kernel
theorem dL_told_139 : decode cL_told 139 = .ok (.i2l, 1) := by decide +kernel
theorem dL_told_140 : decode cL_told 140 = .ok (.lmul, 1) := by decide +kernel
theorem dL_told_141 : decode cL_told 141 = .ok (.ladd, 1) := by decide +kernel
theorem dL_told_142 : decode cL_told 142 = .ok (.ldc2_w 92, 3) := by decide +kernel
theorem dL_told_145 : decode cL_told 145 = .ok (.aload_n 0, 1) := by decide +kernel
theorem dL_told_146 : decode cL_told 146 = .ok (.iload_n 3, 1) := by decide +kernel
theorem dL_told_147 : decode cL_told 147 = .ok (.iconst 1, 1) := by decide +kernel
theorem dL_told_148 : decode cL_told 148 = .ok (.invokevirtual 101, 3) := by decide +kernel
theorem dL_told_151 : decode cL_told 151 = .ok (.i2l, 1) := by decide +kernel
theorem dL_told_152 : decode cL_told 152 = .ok (.lmul, 1) := by decide +kernel
theorem dL_told_153 : decode cL_told 153 = .ok (.ladd, 1) := by decide +kernel
theorem dL_told_154 : decode cL_told 154 = .ok (.ldc2_w 97, 3) := by decide +kernel
theorem dL_told_157 : decode cL_told 157 = .ok (.aload_n 0, 1) := by decide +kernel
theorem dL_told_158 : decode cL_told 158 = .ok (.iload_n 3, 1) := by decide +kernel
theorem dL_told_159 : decode cL_told 159 = .ok (.bipush 6, 2) := by decide +kernel
theorem dL_told_161 : decode cL_told 161 = .ok (.invokevirtual 101, 3) := by decide +kernel
theorem dL_told_164 : decode cL_told 164 = .ok (.i2l, 1) := by decide +kernel
theorem dL_told_165 : decode cL_told 165 = .ok (.lmul, 1) := by decide +kernel
theorem dL_told_166 : decode cL_told 166 = .ok (.ladd, 1) := by decide +kernel
theorem dL_told_167 : decode cL_told 167 = .ok (.aload_n 0, 1) := by decide +kernel
theorem dL_told_168 : decode cL_told 168 = .ok (.iload_n 3, 1) := by decide +kernel
theorem dL_told_169 : decode cL_told 169 = .ok (.iconst 4, 1) := by decide +kernel
theorem dL_told_170 : decode cL_told 170 = .ok (.invokevirtual 101, 3) := by decide +kernel
theorem dL_told_173 : decode cL_told 173 = .ok (.i2l, 1) := by decide +kernel
theorem dL_told_174 : decode cL_told 174 = .ok (.ladd, 1) := by decide +kernel
theorem dL_told_175 : decode cL_told 175 = .ok (.lstore_n 1, 1) := by decide +kernel
theorem dL_told_176 : decode cL_told 176 = .ok (.iinc 3 1, 3) := by decide +kernel
theorem dL_told_179 : decode cL_told 179 = .ok (.goto (-63), 3) := by decide +kernel
theorem dL_told_182 : decode cL_told 182 = .ok (.lload_n 1, 1) := by decide +kernel
theorem dL_told_183 : decode cL_told 183 = .ok (.lreturn, 1) := by decide +kernel
theorem dL_isGroup_0 : decode cL_isGroup 0 = .ok (.iload_n 1, 1) := by decide +kernel
theorem dL_isGroup_1 : decode cL_isGroup 1 = .ok (.aload_n 3, 1) := by decide +kernel
theorem dL_isGroup_2 : decode cL_isGroup 2 = .ok (.aload 4, 2) := by decide +kernel
theorem dL_isGroup_4 : decode cL_isGroup 4 = .ok (.aload 5, 2) := by decide +kernel
theorem dL_isGroup_6 : decode cL_isGroup 6 = .ok (.invokestatic 23, 3) := by decide +kernel
theorem dL_isGroup_9 : decode cL_isGroup 9 = .ok (.istore 8, 2) := by decide +kernel
theorem dL_isGroup_11 : decode cL_isGroup 11 = .ok (.iload_n 1, 1) := by decide +kernel
theorem dL_isGroup_12 : decode cL_isGroup 12 = .ok (.aload_n 3, 1) := by decide +kernel
theorem dL_isGroup_13 : decode cL_isGroup 13 = .ok (.aload 5, 2) := by decide +kernel
theorem dL_isGroup_15 : decode cL_isGroup 15 = .ok (.invokestatic 43, 3) := by decide +kernel
theorem dL_isGroup_18 : decode cL_isGroup 18 = .ok (.istore 9, 2) := by decide +kernel
theorem dL_isGroup_20 : decode cL_isGroup 20 = .ok (.aload 6, 2) := by decide +kernel
theorem dL_isGroup_22 : decode cL_isGroup 22 = .ok (.iload_n 1, 1) := by decide +kernel
theorem dL_isGroup_23 : decode cL_isGroup 23 = .ok (.iaload, 1) := by decide +kernel
theorem dL_isGroup_24 : decode cL_isGroup 24 = .ok (.bipush 7, 2) := by decide +kernel
theorem dL_isGroup_26 : decode cL_isGroup 26 = .ok (.iand, 1) := by decide +kernel
theorem dL_isGroup_27 : decode cL_isGroup 27 = .ok (.iconst 1, 1) := by decide +kernel
theorem dL_isGroup_28 : decode cL_isGroup 28 = .ok (.if_icmp .ne 7, 3) := by decide +kernel
theorem dL_isGroup_31 : decode cL_isGroup 31 = .ok (.iconst 1, 1) := by decide +kernel
theorem dL_isGroup_32 : decode cL_isGroup 32 = .ok (.goto 4, 3) := by decide +kernel
theorem dL_isGroup_35 : decode cL_isGroup 35 = .ok (.iconst 0, 1) := by decide +kernel
theorem dL_isGroup_36 : decode cL_isGroup 36 = .ok (.istore 10, 2) := by decide +kernel
theorem dL_isGroup_38 : decode cL_isGroup 38 = .ok (.bipush (-5), 2) := by decide +kernel
theorem dL_isGroup_40 : decode cL_isGroup 40 = .ok (.istore 11, 2) := by decide +kernel
theorem dL_isGroup_42 : decode cL_isGroup 42 = .ok (.iload_n 2, 1) := by decide +kernel
theorem dL_isGroup_43 : decode cL_isGroup 43 = .ok (.istore 12, 2) := by decide +kernel
theorem dL_isGroup_45 : decode cL_isGroup 45 = .ok (.iconst 0, 1) := by decide +kernel
theorem dL_isGroup_46 : decode cL_isGroup 46 = .ok (.istore 13, 2) := by decide +kernel
theorem dL_isGroup_48 : decode cL_isGroup 48 = .ok (.iload 13, 2) := by decide +kernel
theorem dL_isGroup_50 : decode cL_isGroup 50 = .ok (.aload_n 3, 1) := by decide +kernel
theorem dL_isGroup_51 : decode cL_isGroup 51 = .ok (.bipush 6, 2) := by decide +kernel
theorem dL_isGroup_53 : decode cL_isGroup 53 = .ok (.iaload, 1) := by decide +kernel
theorem dL_isGroup_54 : decode cL_isGroup 54 = .ok (.if_icmp .ge 55, 3) := by decide +kernel
theorem dL_isGroup_57 : decode cL_isGroup 57 = .ok (.aload 5, 2) := by decide +kernel
theorem dL_isGroup_59 : decode cL_isGroup 59 = .ok (.iload 13, 2) := by decide +kernel
theorem dL_isGroup_61 : decode cL_isGroup 61 = .ok (.iaload, 1) := by decide +kernel
theorem dL_isGroup_62 : decode cL_isGroup 62 = .ok (.iconst 2, 1) := by decide +kernel
theorem dL_isGroup_63 : decode cL_isGroup 63 = .ok (.iload_n 1, 1) := by decide +kernel
theorem dL_isGroup_64 : decode cL_isGroup 64 = .ok (.imul, 1) := by decide +kernel
theorem dL_isGroup_65 : decode cL_isGroup 65 = .ok (.if_icmp .ne 13, 3) := by decide +kernel
theorem dL_isGroup_68 : decode cL_isGroup 68 = .ok (.iload 12, 2) := by decide +kernel
theorem dL_isGroup_70 : decode cL_isGroup 70 = .ok (.ifCond .ne 8, 3) := by decide +kernel
theorem dL_isGroup_73 : decode cL_isGroup 73 = .ok (.iload 13, 2) := by decide +kernel
theorem dL_isGroup_75 : decode cL_isGroup 75 = .ok (.goto 5, 3) := by decide +kernel
theorem dL_isGroup_78 : decode cL_isGroup 78 = .ok (.iload 11, 2) := by decide +kernel
theorem dL_isGroup_80 : decode cL_isGroup 80 = .ok (.istore 11, 2) := by decide +kernel
theorem dL_isGroup_82 : decode cL_isGroup 82 = .ok (.iload 12, 2) := by decide +kernel
theorem dL_isGroup_84 : decode cL_isGroup 84 = .ok (.aload 5, 2) := by decide +kernel
theorem dL_isGroup_86 : decode cL_isGroup 86 = .ok (.iload 13, 2) := by decide +kernel
theorem dL_isGroup_88 : decode cL_isGroup 88 = .ok (.iaload, 1) := by decide +kernel
theorem dL_isGroup_89 : decode cL_isGroup 89 = .ok (.iconst 2, 1) := by decide +kernel
theorem dL_isGroup_90 : decode cL_isGroup 90 = .ok (.iload_n 1, 1) := by decide +kernel
theorem dL_isGroup_91 : decode cL_isGroup 91 = .ok (.imul, 1) := by decide +kernel
theorem dL_isGroup_92 : decode cL_isGroup 92 = .ok (.if_icmp .ne 7, 3) := by decide +kernel
theorem dL_isGroup_95 : decode cL_isGroup 95 = .ok (.iconst 1, 1) := by decide +kernel
theorem dL_isGroup_96 : decode cL_isGroup 96 = .ok (.goto 4, 3) := by decide +kernel
theorem dL_isGroup_99 : decode cL_isGroup 99 = .ok (.iconst 0, 1) := by decide +kernel
theorem dL_isGroup_100 : decode cL_isGroup 100 = .ok (.isub, 1) := by decide +kernel
theorem dL_isGroup_101 : decode cL_isGroup 101 = .ok (.istore 12, 2) := by decide +kernel
theorem dL_isGroup_103 : decode cL_isGroup 103 = .ok (.iinc 13 1, 3) := by decide +kernel
theorem dL_isGroup_106 : decode cL_isGroup 106 = .ok (.goto (-58), 3) := by decide +kernel
theorem dL_isGroup_109 : decode cL_isGroup 109 = .ok (.aload_n 0, 1) := by decide +kernel
theorem dL_isGroup_110 : decode cL_isGroup 110 = .ok (.iload_n 1, 1) := by decide +kernel
theorem dL_isGroup_111 : decode cL_isGroup 111 = .ok (.iconst 0, 1) := by decide +kernel
theorem dL_isGroup_112 : decode cL_isGroup 112 = .ok (.invokevirtual 101, 3) := by decide +kernel
theorem dL_isGroup_115 : decode cL_isGroup 115 = .ok (.aload 6, 2) := by decide +kernel
theorem dL_isGroup_117 : decode cL_isGroup 117 = .ok (.iload_n 1, 1) := by decide +kernel
theorem dL_isGroup_118 : decode cL_isGroup 118 = .ok (.iaload, 1) := by decide +kernel
theorem dL_isGroup_119 : decode cL_isGroup 119 = .ok (.bipush 7, 2) := by decide +kernel
theorem dL_isGroup_121 : decode cL_isGroup 121 = .ok (.iand, 1) := by decide +kernel
theorem dL_isGroup_122 : decode cL_isGroup 122 = .ok (.if_icmp .ne 140, 3) := by decide +kernel
theorem dL_isGroup_125 : decode cL_isGroup 125 = .ok (.aload_n 0, 1) := by decide +kernel
theorem dL_isGroup_126 : decode cL_isGroup 126 = .ok (.iload_n 1, 1) := by decide +kernel
theorem dL_isGroup_127 : decode cL_isGroup 127 = .ok (.iconst 1, 1) := by decide +kernel
theorem dL_isGroup_128 : decode cL_isGroup 128 = .ok (.invokevirtual 101, 3) := by decide +kernel
theorem dL_isGroup_131 : decode cL_isGroup 131 = .ok (.iload 8, 2) := by decide +kernel
theorem dL_isGroup_133 : decode cL_isGroup 133 = .ok (.sipush 1000, 3) := by decide +kernel
theorem dL_isGroup_136 : decode cL_isGroup 136 = .ok (.irem, 1) := by decide +kernel
theorem dL_isGroup_137 : decode cL_isGroup 137 = .ok (.if_icmp .ne 125, 3) := by decide +kernel
theorem dL_isGroup_140 : decode cL_isGroup 140 = .ok (.aload_n 0, 1) := by decide +kernel
theorem dL_isGroup_141 : decode cL_isGroup 141 = .ok (.iload_n 1, 1) := by decide +kernel
theorem dL_isGroup_142 : decode cL_isGroup 142 = .ok (.iconst 2, 1) := by decide +kernel
theorem dL_isGroup_143 : decode cL_isGroup 143 = .ok (.invokevirtual 101, 3) := by decide +kernel
theorem dL_isGroup_146 : decode cL_isGroup 146 = .ok (.iload 8, 2) := by decide +kernel
theorem dL_isGroup_148 : decode cL_isGroup 148 = .ok (.sipush 1000, 3) := by decide +kernel
theorem dL_isGroup_151 : decode cL_isGroup 151 = .ok (.idiv, 1) := by decide +kernel
theorem dL_isGroup_152 : decode cL_isGroup 152 = .ok (.if_icmp .ne 110, 3) := by decide +kernel
theorem dL_isGroup_155 : decode cL_isGroup 155 = .ok (.aload_n 0, 1) := by decide +kernel
theorem dL_isGroup_156 : decode cL_isGroup 156 = .ok (.iload_n 1, 1) := by decide +kernel
theorem dL_isGroup_157 : decode cL_isGroup 157 = .ok (.iconst 3, 1) := by decide +kernel
theorem dL_isGroup_158 : decode cL_isGroup 158 = .ok (.invokevirtual 101, 3) := by decide +kernel
theorem dL_isGroup_161 : decode cL_isGroup 161 = .ok (.iload 10, 2) := by decide +kernel
theorem dL_isGroup_163 : decode cL_isGroup 163 = .ok (.ifCond .eq 14, 3) := by decide +kernel
theorem dL_isGroup_166 : decode cL_isGroup 166 = .ok (.aload 4, 2) := by decide +kernel
theorem dL_isGroup_168 : decode cL_isGroup 168 = .ok (.iload 9, 2) := by decide +kernel
theorem dL_isGroup_170 : decode cL_isGroup 170 = .ok (.iaload, 1) := by decide +kernel
theorem dL_isGroup_171 : decode cL_isGroup 171 = .ok (.bipush 15, 2) := by decide +kernel
theorem dL_isGroup_173 : decode cL_isGroup 173 = .ok (.iand, 1) := by decide +kernel
theorem dL_isGroup_174 : decode cL_isGroup 174 = .ok (.goto 5, 3) := by decide +kernel
theorem dL_isGroup_177 : decode cL_isGroup 177 = .ok (.bipush (-5), 2) := by decide +kernel
theorem dL_isGroup_179 : decode cL_isGroup 179 = .ok (.if_icmp .ne 83, 3) := by decide +kernel
theorem dL_isGroup_182 : decode cL_isGroup 182 = .ok (.aload_n 0, 1) := by decide +kernel
theorem dL_isGroup_183 : decode cL_isGroup 183 = .ok (.iload_n 1, 1) := by decide +kernel
theorem dL_isGroup_184 : decode cL_isGroup 184 = .ok (.iconst 4, 1) := by decide +kernel
theorem dL_isGroup_185 : decode cL_isGroup 185 = .ok (.invokevirtual 101, 3) := by decide +kernel
theorem dL_isGroup_188 : decode cL_isGroup 188 = .ok (.iload 10, 2) := by decide +kernel
theorem dL_isGroup_190 : decode cL_isGroup 190 = .ok (.ifCond .eq 10, 3) := by decide +kernel
theorem dL_isGroup_193 : decode cL_isGroup 193 = .ok (.aload 7, 2) := by decide +kernel
theorem dL_isGroup_195 : decode cL_isGroup 195 = .ok (.iload_n 1, 1) := by decide +kernel
theorem dL_isGroup_196 : decode cL_isGroup 196 = .ok (.iaload, 1) := by decide +kernel
theorem dL_isGroup_197 : decode cL_isGroup 197 = .ok (.goto 5, 3) := by decide +kernel
theorem dL_isGroup_200 : decode cL_isGroup 200 = .ok (.bipush (-5), 2) := by decide +kernel
theorem dL_isGroup_202 : decode cL_isGroup 202 = .ok (.if_icmp .ne 60, 3) := by decide +kernel
theorem dL_isGroup_205 : decode cL_isGroup 205 = .ok (.aload_n 0, 1) := by decide +kernel
theorem dL_isGroup_206 : decode cL_isGroup 206 = .ok (.iload_n 1, 1) := by decide +kernel
theorem dL_isGroup_207 : decode cL_isGroup 207 = .ok (.iconst 5, 1) := by decide +kernel
theorem dL_isGroup_208 : decode cL_isGroup 208 = .ok (.invokevirtual 101, 3) := by decide +kernel
theorem dL_isGroup_211 : decode cL_isGroup 211 = .ok (.aload 6, 2) := by decide +kernel
theorem dL_isGroup_213 : decode cL_isGroup 213 = .ok (.iload_n 1, 1) := by decide +kernel
theorem dL_isGroup_214 : decode cL_isGroup 214 = .ok (.iaload, 1) := by decide +kernel
theorem dL_isGroup_215 : decode cL_isGroup 215 = .ok (.iconst 3, 1) := by decide +kernel
theorem dL_isGroup_216 : decode cL_isGroup 216 = .ok (.ishr, 1) := by decide +kernel
theorem dL_isGroup_217 : decode cL_isGroup 217 = .ok (.if_icmp .ne 45, 3) := by decide +kernel
theorem dL_isGroup_220 : decode cL_isGroup 220 = .ok (.aload_n 0, 1) := by decide +kernel
theorem dL_isGroup_221 : decode cL_isGroup 221 = .ok (.iload_n 1, 1) := by decide +kernel
theorem dL_isGroup_222 : decode cL_isGroup 222 = .ok (.bipush 6, 2) := by decide +kernel
theorem dL_isGroup_224 : decode cL_isGroup 224 = .ok (.invokevirtual 101, 3) := by decide +kernel
theorem dL_isGroup_227 : decode cL_isGroup 227 = .ok (.aload_n 3, 1) := by decide +kernel
theorem dL_isGroup_228 : decode cL_isGroup 228 = .ok (.bipush 9, 2) := by decide +kernel
theorem dL_isGroup_230 : decode cL_isGroup 230 = .ok (.iaload, 1) := by decide +kernel
theorem dL_isGroup_231 : decode cL_isGroup 231 = .ok (.iload_n 1, 1) := by decide +kernel
theorem dL_isGroup_232 : decode cL_isGroup 232 = .ok (.if_icmp .ne 10, 3) := by decide +kernel
theorem dL_isGroup_235 : decode cL_isGroup 235 = .ok (.aload_n 3, 1) := by decide +kernel
theorem dL_isGroup_236 : decode cL_isGroup 236 = .ok (.bipush 10, 2) := by decide +kernel
theorem dL_isGroup_238 : decode cL_isGroup 238 = .ok (.iaload, 1) := by decide +kernel
theorem dL_isGroup_239 : decode cL_isGroup 239 = .ok (.goto 5, 3) := by decide +kernel
theorem dL_isGroup_242 : decode cL_isGroup 242 = .ok (.bipush (-5), 2) := by decide +kernel
theorem dL_isGroup_244 : decode cL_isGroup 244 = .ok (.if_icmp .ne 18, 3) := by decide +kernel
theorem dL_isGroup_247 : decode cL_isGroup 247 = .ok (.aload_n 0, 1) := by decide +kernel
theorem dL_isGroup_248 : decode cL_isGroup 248 = .ok (.iload_n 1, 1) := by decide +kernel
theorem dL_isGroup_249 : decode cL_isGroup 249 = .ok (.iload_n 2, 1) := by decide +kernel
theorem dL_isGroup_250 : decode cL_isGroup 250 = .ok (.invokevirtual 104, 3) := by decide +kernel
theorem dL_isGroup_253 : decode cL_isGroup 253 = .ok (.iload 11, 2) := by decide +kernel
theorem dL_isGroup_255 : decode cL_isGroup 255 = .ok (.if_icmp .ne 7, 3) := by decide +kernel
theorem dL_isGroup_258 : decode cL_isGroup 258 = .ok (.iconst 1, 1) := by decide +kernel
theorem dL_isGroup_259 : decode cL_isGroup 259 = .ok (.goto 4, 3) := by decide +kernel
theorem dL_isGroup_262 : decode cL_isGroup 262 = .ok (.iconst 0, 1) := by decide +kernel
theorem dL_isGroup_263 : decode cL_isGroup 263 = .ok (.ireturn, 1) := by decide +kernel
theorem dL_isSo_0 : decode cL_isSo 0 = .ok (.aload_n 0, 1) := by decide +kernel
theorem dL_isSo_1 : decode cL_isSo 1 = .ok (.iconst 0, 1) := by decide +kernel
theorem dL_isSo_2 : decode cL_isSo 2 = .ok (.invokevirtual 86, 3) := by decide +kernel
theorem dL_isSo_5 : decode cL_isSo 5 = .ok (.aload_n 2, 1) := by decide +kernel
theorem dL_isSo_6 : decode cL_isSo 6 = .ok (.iconst 0, 1) := by decide +kernel
theorem dL_isSo_7 : decode cL_isSo 7 = .ok (.iaload, 1) := by decide +kernel
theorem dL_isSo_8 : decode cL_isSo 8 = .ok (.if_icmp .ne 42, 3) := by decide +kernel
theorem dL_isSo_11 : decode cL_isSo 11 = .ok (.aload_n 0, 1) := by decide +kernel
theorem dL_isSo_12 : decode cL_isSo 12 = .ok (.iconst 1, 1) := by decide +kernel
theorem dL_isSo_13 : decode cL_isSo 13 = .ok (.invokevirtual 86, 3) := by decide +kernel
theorem dL_isSo_16 : decode cL_isSo 16 = .ok (.aload_n 2, 1) := by decide +kernel
theorem dL_isSo_17 : decode cL_isSo 17 = .ok (.iconst 1, 1) := by decide +kernel
theorem dL_isSo_18 : decode cL_isSo 18 = .ok (.iaload, 1) := by decide +kernel
theorem dL_isSo_19 : decode cL_isSo 19 = .ok (.if_icmp .ne 31, 3) := by decide +kernel
theorem dL_isSo_22 : decode cL_isSo 22 = .ok (.aload_n 0, 1) := by decide +kernel
theorem dL_isSo_23 : decode cL_isSo 23 = .ok (.iconst 2, 1) := by decide +kernel
theorem dL_isSo_24 : decode cL_isSo 24 = .ok (.invokevirtual 86, 3) := by decide +kernel
theorem dL_isSo_27 : decode cL_isSo 27 = .ok (.aload_n 2, 1) := by decide +kernel
theorem dL_isSo_28 : decode cL_isSo 28 = .ok (.bipush 8, 2) := by decide +kernel
theorem dL_isSo_30 : decode cL_isSo 30 = .ok (.iaload, 1) := by decide +kernel
theorem dL_isSo_31 : decode cL_isSo 31 = .ok (.if_icmp .ne 19, 3) := by decide +kernel
theorem dL_isSo_34 : decode cL_isSo 34 = .ok (.aload_n 0, 1) := by decide +kernel
theorem dL_isSo_35 : decode cL_isSo 35 = .ok (.iconst 3, 1) := by decide +kernel
theorem dL_isSo_36 : decode cL_isSo 36 = .ok (.invokevirtual 86, 3) := by decide +kernel
theorem dL_isSo_39 : decode cL_isSo 39 = .ok (.aload_n 2, 1) := by decide +kernel
theorem dL_isSo_40 : decode cL_isSo 40 = .ok (.bipush 9, 2) := by decide +kernel
theorem dL_isSo_42 : decode cL_isSo 42 = .ok (.iaload, 1) := by decide +kernel
theorem dL_isSo_43 : decode cL_isSo 43 = .ok (.if_icmp .ne 7, 3) := by decide +kernel
theorem dL_isSo_46 : decode cL_isSo 46 = .ok (.iconst 1, 1) := by decide +kernel
theorem dL_isSo_47 : decode cL_isSo 47 = .ok (.goto 4, 3) := by decide +kernel
theorem dL_isSo_50 : decode cL_isSo 50 = .ok (.iconst 0, 1) := by decide +kernel
theorem dL_isSo_51 : decode cL_isSo 51 = .ok (.istore 9, 2) := by decide +kernel
theorem dL_isSo_53 : decode cL_isSo 53 = .ok (.iconst 0, 1) := by decide +kernel
theorem dL_isSo_54 : decode cL_isSo 54 = .ok (.istore 10, 2) := by decide +kernel
theorem dL_isSo_56 : decode cL_isSo 56 = .ok (.iconst 0, 1) := by decide +kernel
theorem dL_isSo_57 : decode cL_isSo 57 = .ok (.istore 11, 2) := by decide +kernel
theorem dL_isSo_59 : decode cL_isSo 59 = .ok (.bipush (-5), 2) := by decide +kernel
theorem dL_isSo_61 : decode cL_isSo 61 = .ok (.istore 12, 2) := by decide +kernel
theorem dL_isSo_63 : decode cL_isSo 63 = .ok (.iload_n 1, 1) := by decide +kernel
theorem dL_isSo_64 : decode cL_isSo 64 = .ok (.iconst 3, 1) := by decide +kernel
theorem dL_isSo_65 : decode cL_isSo 65 = .ok (.invokestatic 107, 3) := by decide +kernel
theorem dL_isSo_68 : decode cL_isSo 68 = .ok (.istore 13, 2) := by decide +kernel
theorem dL_isSo_70 : decode cL_isSo 70 = .ok (.iconst 0, 1) := by decide +kernel
theorem dL_isSo_71 : decode cL_isSo 71 = .ok (.istore 14, 2) := by decide +kernel
theorem dL_isSo_73 : decode cL_isSo 73 = .ok (.iload 14, 2) := by decide +kernel
theorem dL_isSo_75 : decode cL_isSo 75 = .ok (.aload_n 2, 1) := by decide +kernel
theorem dL_isSo_76 : decode cL_isSo 76 = .ok (.bipush 6, 2) := by decide +kernel
theorem dL_isSo_78 : decode cL_isSo 78 = .ok (.iaload, 1) := by decide +kernel
theorem dL_isSo_79 : decode cL_isSo 79 = .ok (.if_icmp .ge 29, 3) := by decide +kernel
theorem dL_isSo_82 : decode cL_isSo 82 = .ok (.iload 10, 2) := by decide +kernel
theorem dL_isSo_84 : decode cL_isSo 84 = .ok (.iload 14, 2) := by decide +kernel
theorem dL_isSo_86 : decode cL_isSo 86 = .ok (.aload_n 3, 1) := by decide +kernel
theorem dL_isSo_87 : decode cL_isSo 87 = .ok (.invokestatic 16, 3) := by decide +kernel
theorem dL_isSo_90 : decode cL_isSo 90 = .ok (.iconst 4, 1) := by decide +kernel
theorem dL_isSo_91 : decode cL_isSo 91 = .ok (.if_icmp .ge 7, 3) := by decide +kernel
theorem dL_isSo_94 : decode cL_isSo 94 = .ok (.iconst 1, 1) := by decide +kernel
theorem dL_isSo_95 : decode cL_isSo 95 = .ok (.goto 4, 3) := by decide +kernel
theorem dL_isSo_98 : decode cL_isSo 98 = .ok (.iconst 0, 1) := by decide +kernel
theorem dL_isSo_99 : decode cL_isSo 99 = .ok (.iadd, 1) := by decide +kernel
theorem dL_isSo_100 : decode cL_isSo 100 = .ok (.istore 10, 2) := by decide +kernel
theorem dL_isSo_102 : decode cL_isSo 102 = .ok (.iinc 14 1, 3) := by decide +kernel
theorem dL_isSo_105 : decode cL_isSo 105 = .ok (.goto (-32), 3) := by decide +kernel
theorem dL_isSo_108 : decode cL_isSo 108 = .ok (.iconst 0, 1) := by decide +kernel
theorem dL_isSo_109 : decode cL_isSo 109 = .ok (.istore 14, 2) := by decide +kernel
theorem dL_isSo_111 : decode cL_isSo 111 = .ok (.iload 14, 2) := by decide +kernel
theorem dL_isSo_113 : decode cL_isSo 113 = .ok (.aload_n 2, 1) := by decide +kernel
theorem dL_isSo_114 : decode cL_isSo 114 = .ok (.bipush 7, 2) := by decide +kernel
theorem dL_isSo_116 : decode cL_isSo 116 = .ok (.iaload, 1) := by decide +kernel
theorem dL_isSo_117 : decode cL_isSo 117 = .ok (.if_icmp .ge 59, 3) := by decide +kernel
theorem dL_isSo_120 : decode cL_isSo 120 = .ok (.aload 7, 2) := by decide +kernel
theorem dL_isSo_122 : decode cL_isSo 122 = .ok (.iload 14, 2) := by decide +kernel
theorem dL_isSo_124 : decode cL_isSo 124 = .ok (.iaload, 1) := by decide +kernel
theorem dL_isSo_125 : decode cL_isSo 125 = .ok (.bipush 7, 2) := by decide +kernel
theorem dL_isSo_127 : decode cL_isSo 127 = .ok (.iand, 1) := by decide +kernel
theorem dL_isSo_128 : decode cL_isSo 128 = .ok (.iconst 2, 1) := by decide +kernel
theorem dL_isSo_129 : decode cL_isSo 129 = .ok (.if_icmp .ne 15, 3) := by decide +kernel
theorem dL_isSo_132 : decode cL_isSo 132 = .ok (.iload 11, 2) := by decide +kernel
theorem dL_isSo_134 : decode cL_isSo 134 = .ok (.iload 13, 2) := by decide +kernel
theorem dL_isSo_136 : decode cL_isSo 136 = .ok (.if_icmp .ne 8, 3) := by decide +kernel
theorem dL_isSo_139 : decode cL_isSo 139 = .ok (.iload 14, 2) := by decide +kernel
theorem dL_isSo_141 : decode cL_isSo 141 = .ok (.goto 5, 3) := by decide +kernel
theorem dL_isSo_144 : decode cL_isSo 144 = .ok (.iload 12, 2) := by decide +kernel
theorem dL_isSo_146 : decode cL_isSo 146 = .ok (.istore 12, 2) := by decide +kernel
theorem dL_isSo_148 : decode cL_isSo 148 = .ok (.iload 11, 2) := by decide +kernel
theorem dL_isSo_150 : decode cL_isSo 150 = .ok (.aload 7, 2) := by decide +kernel
theorem dL_isSo_152 : decode cL_isSo 152 = .ok (.iload 14, 2) := by decide +kernel
theorem dL_isSo_154 : decode cL_isSo 154 = .ok (.iaload, 1) := by decide +kernel
theorem dL_isSo_155 : decode cL_isSo 155 = .ok (.bipush 7, 2) := by decide +kernel
theorem dL_isSo_157 : decode cL_isSo 157 = .ok (.iand, 1) := by decide +kernel
theorem dL_isSo_158 : decode cL_isSo 158 = .ok (.iconst 2, 1) := by decide +kernel
theorem dL_isSo_159 : decode cL_isSo 159 = .ok (.if_icmp .ne 7, 3) := by decide +kernel
theorem dL_isSo_162 : decode cL_isSo 162 = .ok (.iconst 1, 1) := by decide +kernel
theorem dL_isSo_163 : decode cL_isSo 163 = .ok (.goto 4, 3) := by decide +kernel
theorem dL_isSo_166 : decode cL_isSo 166 = .ok (.iconst 0, 1) := by decide +kernel
theorem dL_isSo_167 : decode cL_isSo 167 = .ok (.iadd, 1) := by decide +kernel
theorem dL_isSo_168 : decode cL_isSo 168 = .ok (.istore 11, 2) := by decide +kernel
theorem dL_isSo_170 : decode cL_isSo 170 = .ok (.iinc 14 1, 3) := by decide +kernel
theorem dL_isSo_173 : decode cL_isSo 173 = .ok (.goto (-62), 3) := by decide +kernel
theorem dL_isSo_176 : decode cL_isSo 176 = .ok (.iconst 0, 1) := by decide +kernel
theorem dL_isSo_177 : decode cL_isSo 177 = .ok (.istore 14, 2) := by decide +kernel
theorem dL_isSo_179 : decode cL_isSo 179 = .ok (.iload 14, 2) := by decide +kernel
theorem dL_isSo_181 : decode cL_isSo 181 = .ok (.iconst 4, 1) := by decide +kernel
theorem dL_isSo_182 : decode cL_isSo 182 = .ok (.if_icmp .ge 39, 3) := by decide +kernel
theorem dL_isSo_185 : decode cL_isSo 185 = .ok (.iload 9, 2) := by decide +kernel
theorem dL_isSo_187 : decode cL_isSo 187 = .ok (.ifCond .eq 25, 3) := by decide +kernel
theorem dL_isSo_190 : decode cL_isSo 190 = .ok (.aload_n 0, 1) := by decide +kernel
theorem dL_isSo_191 : decode cL_isSo 191 = .ok (.bipush 6, 2) := by decide +kernel
theorem dL_isSo_193 : decode cL_isSo 193 = .ok (.iload 14, 2) := by decide +kernel
theorem dL_isSo_195 : decode cL_isSo 195 = .ok (.iadd, 1) := by decide +kernel
theorem dL_isSo_196 : decode cL_isSo 196 = .ok (.invokevirtual 86, 3) := by decide +kernel
theorem dL_isSo_199 : decode cL_isSo 199 = .ok (.aload_n 2, 1) := by decide +kernel
theorem dL_isSo_200 : decode cL_isSo 200 = .ok (.iconst 2, 1) := by decide +kernel
theorem dL_isSo_201 : decode cL_isSo 201 = .ok (.iload 14, 2) := by decide +kernel
theorem dL_isSo_203 : decode cL_isSo 203 = .ok (.iadd, 1) := by decide +kernel
theorem dL_isSo_204 : decode cL_isSo 204 = .ok (.iaload, 1) := by decide +kernel
theorem dL_isSo_205 : decode cL_isSo 205 = .ok (.if_icmp .ne 7, 3) := by decide +kernel
theorem dL_isSo_208 : decode cL_isSo 208 = .ok (.iconst 1, 1) := by decide +kernel
theorem dL_isSo_209 : decode cL_isSo 209 = .ok (.goto 4, 3) := by decide +kernel
theorem dL_isSo_212 : decode cL_isSo 212 = .ok (.iconst 0, 1) := by decide +kernel
theorem dL_isSo_213 : decode cL_isSo 213 = .ok (.istore 9, 2) := by decide +kernel
theorem dL_isSo_215 : decode cL_isSo 215 = .ok (.iinc 14 1, 3) := by decide +kernel
theorem dL_isSo_218 : decode cL_isSo 218 = .ok (.goto (-39), 3) := by decide +kernel
theorem dL_isSo_221 : decode cL_isSo 221 = .ok (.iload 9, 2) := by decide +kernel
theorem dL_isSo_223 : decode cL_isSo 223 = .ok (.ifCond .eq 166, 3) := by decide +kernel
theorem dL_isSo_226 : decode cL_isSo 226 = .ok (.aload_n 0, 1) := by decide +kernel
theorem dL_isSo_227 : decode cL_isSo 227 = .ok (.iconst 4, 1) := by decide +kernel
theorem dL_isSo_228 : decode cL_isSo 228 = .ok (.invokevirtual 86, 3) := by decide +kernel
theorem dL_isSo_231 : decode cL_isSo 231 = .ok (.iload 11, 2) := by decide +kernel
theorem dL_isSo_233 : decode cL_isSo 233 = .ok (.if_icmp .ne 156, 3) := by decide +kernel
theorem dL_isSo_236 : decode cL_isSo 236 = .ok (.aload_n 0, 1) := by decide +kernel
theorem dL_isSo_237 : decode cL_isSo 237 = .ok (.iconst 5, 1) := by decide +kernel
theorem dL_isSo_238 : decode cL_isSo 238 = .ok (.invokevirtual 86, 3) := by decide +kernel
theorem dL_isSo_241 : decode cL_isSo 241 = .ok (.iload 10, 2) := by decide +kernel
theorem dL_isSo_243 : decode cL_isSo 243 = .ok (.if_icmp .ne 146, 3) := by decide +kernel
theorem dL_isSo_246 : decode cL_isSo 246 = .ok (.aload_n 0, 1) := by decide +kernel
theorem dL_isSo_247 : decode cL_isSo 247 = .ok (.iload 13, 2) := by decide +kernel
theorem dL_isSo_249 : decode cL_isSo 249 = .ok (.invokevirtual 110, 3) := by decide +kernel
theorem dL_isSo_252 : decode cL_isSo 252 = .ok (.iload 12, 2) := by decide +kernel
theorem dL_isSo_254 : decode cL_isSo 254 = .ok (.if_icmp .ne 135, 3) := by decide +kernel
theorem dL_isSo_257 : decode cL_isSo 257 = .ok (.aload_n 0, 1) := by decide +kernel
theorem dL_isSo_258 : decode cL_isSo 258 = .ok (.iconst 0, 1) := by decide +kernel
theorem dL_isSo_259 : decode cL_isSo 259 = .ok (.invokevirtual 89, 3) := by decide +kernel
theorem dL_isSo_262 : decode cL_isSo 262 = .ok (.aload_n 2, 1) := by decide +kernel
theorem dL_isSo_263 : decode cL_isSo 263 = .ok (.bipush 6, 2) := by decide +kernel
theorem dL_isSo_265 : decode cL_isSo 265 = .ok (.iaload, 1) := by decide +kernel
theorem dL_isSo_266 : decode cL_isSo 266 = .ok (.if_icmp .ne 123, 3) := by decide +kernel
theorem dL_isSo_269 : decode cL_isSo 269 = .ok (.aload_n 0, 1) := by decide +kernel
theorem dL_isSo_270 : decode cL_isSo 270 = .ok (.iconst 1, 1) := by decide +kernel
theorem dL_isSo_271 : decode cL_isSo 271 = .ok (.invokevirtual 89, 3) := by decide +kernel
theorem dL_isSo_274 : decode cL_isSo 274 = .ok (.aload_n 2, 1) := by decide +kernel
theorem dL_isSo_275 : decode cL_isSo 275 = .ok (.bipush 11, 2) := by decide +kernel
theorem dL_isSo_277 : decode cL_isSo 277 = .ok (.iaload, 1) := by decide +kernel
theorem dL_isSo_278 : decode cL_isSo 278 = .ok (.if_icmp .ne 111, 3) := by decide +kernel
theorem dL_isSo_281 : decode cL_isSo 281 = .ok (.aload_n 0, 1) := by decide +kernel
theorem dL_isSo_282 : decode cL_isSo 282 = .ok (.iconst 2, 1) := by decide +kernel
theorem dL_isSo_283 : decode cL_isSo 283 = .ok (.invokevirtual 89, 3) := by decide +kernel
theorem dL_isSo_286 : decode cL_isSo 286 = .ok (.aload_n 2, 1) := by decide +kernel
theorem dL_isSo_287 : decode cL_isSo 287 = .ok (.bipush 12, 2) := by decide +kernel
theorem dL_isSo_289 : decode cL_isSo 289 = .ok (.iaload, 1) := by decide +kernel
theorem dL_isSo_290 : decode cL_isSo 290 = .ok (.if_icmp .ne 99, 3) := by decide +kernel
theorem dL_isSo_293 : decode cL_isSo 293 = .ok (.aload_n 0, 1) := by decide +kernel
theorem dL_isSo_294 : decode cL_isSo 294 = .ok (.iconst 3, 1) := by decide +kernel
theorem dL_isSo_295 : decode cL_isSo 295 = .ok (.invokevirtual 89, 3) := by decide +kernel
theorem dL_isSo_298 : decode cL_isSo 298 = .ok (.aload_n 2, 1) := by decide +kernel
theorem dL_isSo_299 : decode cL_isSo 299 = .ok (.bipush 13, 2) := by decide +kernel
theorem dL_isSo_301 : decode cL_isSo 301 = .ok (.iaload, 1) := by decide +kernel
theorem dL_isSo_302 : decode cL_isSo 302 = .ok (.if_icmp .ne 87, 3) := by decide +kernel
theorem dL_isSo_305 : decode cL_isSo 305 = .ok (.aload_n 0, 1) := by decide +kernel
theorem dL_isSo_306 : decode cL_isSo 306 = .ok (.iconst 4, 1) := by decide +kernel
theorem dL_isSo_307 : decode cL_isSo 307 = .ok (.invokevirtual 89, 3) := by decide +kernel
theorem dL_isSo_310 : decode cL_isSo 310 = .ok (.aload_n 2, 1) := by decide +kernel
theorem dL_isSo_311 : decode cL_isSo 311 = .ok (.bipush 7, 2) := by decide +kernel
theorem dL_isSo_313 : decode cL_isSo 313 = .ok (.iaload, 1) := by decide +kernel
theorem dL_isSo_314 : decode cL_isSo 314 = .ok (.if_icmp .ne 75, 3) := by decide +kernel
theorem dL_isSo_317 : decode cL_isSo 317 = .ok (.aload_n 0, 1) := by decide +kernel
theorem dL_isSo_318 : decode cL_isSo 318 = .ok (.iconst 5, 1) := by decide +kernel
theorem dL_isSo_319 : decode cL_isSo 319 = .ok (.invokevirtual 89, 3) := by decide +kernel
theorem dL_isSo_322 : decode cL_isSo 322 = .ok (.aload_n 2, 1) := by decide +kernel
theorem dL_isSo_323 : decode cL_isSo 323 = .ok (.bipush 14, 2) := by decide +kernel
theorem dL_isSo_325 : decode cL_isSo 325 = .ok (.iaload, 1) := by decide +kernel
theorem dL_isSo_326 : decode cL_isSo 326 = .ok (.if_icmp .ne 63, 3) := by decide +kernel
theorem dL_isSo_329 : decode cL_isSo 329 = .ok (.aload_n 0, 1) := by decide +kernel
theorem dL_isSo_330 : decode cL_isSo 330 = .ok (.bipush 6, 2) := by decide +kernel
theorem dL_isSo_332 : decode cL_isSo 332 = .ok (.invokevirtual 89, 3) := by decide +kernel
theorem dL_isSo_335 : decode cL_isSo 335 = .ok (.aload_n 2, 1) := by decide +kernel
theorem dL_isSo_336 : decode cL_isSo 336 = .ok (.bipush 15, 2) := by decide +kernel
theorem dL_isSo_338 : decode cL_isSo 338 = .ok (.iaload, 1) := by decide +kernel
theorem dL_isSo_339 : decode cL_isSo 339 = .ok (.if_icmp .ne 50, 3) := by decide +kernel
theorem dL_isSo_342 : decode cL_isSo 342 = .ok (.aload_n 0, 1) := by decide +kernel
theorem dL_isSo_343 : decode cL_isSo 343 = .ok (.bipush 7, 2) := by decide +kernel
theorem dL_isSo_345 : decode cL_isSo 345 = .ok (.invokevirtual 89, 3) := by decide +kernel
theorem dL_isSo_348 : decode cL_isSo 348 = .ok (.aload_n 2, 1) := by decide +kernel
theorem dL_isSo_349 : decode cL_isSo 349 = .ok (.bipush 16, 2) := by decide +kernel
theorem dL_isSo_351 : decode cL_isSo 351 = .ok (.iaload, 1) := by decide +kernel
theorem dL_isSo_352 : decode cL_isSo 352 = .ok (.if_icmp .ne 37, 3) := by decide +kernel
theorem dL_isSo_355 : decode cL_isSo 355 = .ok (.aload_n 0, 1) := by decide +kernel
theorem dL_isSo_356 : decode cL_isSo 356 = .ok (.invokevirtual 113, 3) := by decide +kernel
theorem dL_isSo_359 : decode cL_isSo 359 = .ok (.aload_n 2, 1) := by decide +kernel
theorem dL_isSo_360 : decode cL_isSo 360 = .ok (.bipush 11, 2) := by decide +kernel
theorem dL_isSo_362 : decode cL_isSo 362 = .ok (.iaload, 1) := by decide +kernel
theorem dL_isSo_363 : decode cL_isSo 363 = .ok (.ifCond .ne 7, 3) := by decide +kernel
theorem dL_isSo_366 : decode cL_isSo 366 = .ok (.dconst 0, 1) := by decide +kernel
theorem dL_isSo_367 : decode cL_isSo 367 = .ok (.goto 14, 3) := by decide +kernel
theorem dL_isSo_370 : decode cL_isSo 370 = .ok (.aload_n 2, 1) := by decide +kernel
theorem dL_isSo_371 : decode cL_isSo 371 = .ok (.bipush 16, 2) := by decide +kernel
theorem dL_isSo_373 : decode cL_isSo 373 = .ok (.iaload, 1) := by decide +kernel
theorem dL_isSo_374 : decode cL_isSo 374 = .ok (.i2d, 1) := by decide +kernel
theorem dL_isSo_375 : decode cL_isSo 375 = .ok (.aload_n 2, 1) := by decide +kernel
theorem dL_isSo_376 : decode cL_isSo 376 = .ok (.bipush 11, 2) := by decide +kernel
theorem dL_isSo_378 : decode cL_isSo 378 = .ok (.iaload, 1) := by decide +kernel
theorem dL_isSo_379 : decode cL_isSo 379 = .ok (.i2d, 1) := by decide +kernel
theorem dL_isSo_380 : decode cL_isSo 380 = .ok (.ddiv, 1) := by decide +kernel
theorem dL_isSo_381 : decode cL_isSo 381 = .ok (.dcmp .l, 1) := by decide +kernel
theorem dL_isSo_382 : decode cL_isSo 382 = .ok (.ifCond .ne 7, 3) := by decide +kernel
theorem dL_isSo_385 : decode cL_isSo 385 = .ok (.iconst 1, 1) := by decide +kernel
theorem dL_isSo_386 : decode cL_isSo 386 = .ok (.goto 4, 3) := by decide +kernel
theorem dL_isSo_389 : decode cL_isSo 389 = .ok (.iconst 0, 1) := by decide +kernel
theorem dL_isSo_390 : decode cL_isSo 390 = .ok (.istore 9, 2) := by decide +kernel
theorem dL_isSo_392 : decode cL_isSo 392 = .ok (.iload_n 1, 1) := by decide +kernel
theorem dL_isSo_393 : decode cL_isSo 393 = .ok (.iconst 2, 1) := by decide +kernel
theorem dL_isSo_394 : decode cL_isSo 394 = .ok (.ishr, 1) := by decide +kernel
theorem dL_isSo_395 : decode cL_isSo 395 = .ok (.bipush 12, 2) := by decide +kernel
theorem dL_isSo_397 : decode cL_isSo 397 = .ok (.invokestatic 107, 3) := by decide +kernel
theorem dL_isSo_400 : decode cL_isSo 400 = .ok (.istore 14, 2) := by decide +kernel
theorem dL_isSo_402 : decode cL_isSo 402 = .ok (.iload 9, 2) := by decide +kernel
theorem dL_isSo_404 : decode cL_isSo 404 = .ok (.ifCond .eq 49, 3) := by decide +kernel
theorem dL_isSo_407 : decode cL_isSo 407 = .ok (.aload_n 0, 1) := by decide +kernel
theorem dL_isSo_408 : decode cL_isSo 408 = .ok (.iload 14, 2) := by decide +kernel
theorem dL_isSo_410 : decode cL_isSo 410 = .ok (.invokevirtual 117, 3) := by decide +kernel
theorem dL_isSo_413 : decode cL_isSo 413 = .ok (.iload 14, 2) := by decide +kernel
theorem dL_isSo_415 : decode cL_isSo 415 = .ok (.aload_n 2, 1) := by decide +kernel
theorem dL_isSo_416 : decode cL_isSo 416 = .ok (.aload_n 3, 1) := by decide +kernel
theorem dL_isSo_417 : decode cL_isSo 417 = .ok (.invokestatic 39, 3) := by decide +kernel
theorem dL_isSo_420 : decode cL_isSo 420 = .ok (.if_icmp .ne 33, 3) := by decide +kernel
theorem dL_isSo_423 : decode cL_isSo 423 = .ok (.aload_n 0, 1) := by decide +kernel
theorem dL_isSo_424 : decode cL_isSo 424 = .ok (.aload_n 2, 1) := by decide +kernel
theorem dL_isSo_425 : decode cL_isSo 425 = .ok (.bipush 6, 2) := by decide +kernel
theorem dL_isSo_427 : decode cL_isSo 427 = .ok (.iaload, 1) := by decide +kernel
theorem dL_isSo_428 : decode cL_isSo 428 = .ok (.iconst 0, 1) := by decide +kernel
theorem dL_isSo_429 : decode cL_isSo 429 = .ok (.invokevirtual 94, 3) := by decide +kernel
theorem dL_isSo_432 : decode cL_isSo 432 = .ok (.iconst (-1), 1) := by decide +kernel
theorem dL_isSo_433 : decode cL_isSo 433 = .ok (.if_icmp .ne 20, 3) := by decide +kernel
theorem dL_isSo_436 : decode cL_isSo 436 = .ok (.aload_n 0, 1) := by decide +kernel
theorem dL_isSo_437 : decode cL_isSo 437 = .ok (.aload_n 2, 1) := by decide +kernel
theorem dL_isSo_438 : decode cL_isSo 438 = .ok (.bipush 7, 2) := by decide +kernel
theorem dL_isSo_440 : decode cL_isSo 440 = .ok (.iaload, 1) := by decide +kernel
theorem dL_isSo_441 : decode cL_isSo 441 = .ok (.iconst 0, 1) := by decide +kernel
theorem dL_isSo_442 : decode cL_isSo 442 = .ok (.invokevirtual 101, 3) := by decide +kernel
theorem dL_isSo_445 : decode cL_isSo 445 = .ok (.iconst (-1), 1) := by decide +kernel
theorem dL_isSo_446 : decode cL_isSo 446 = .ok (.if_icmp .ne 7, 3) := by decide +kernel
theorem dL_isSo_449 : decode cL_isSo 449 = .ok (.iconst 1, 1) := by decide +kernel
theorem dL_isSo_450 : decode cL_isSo 450 = .ok (.goto 4, 3) := by decide +kernel
theorem dL_isSo_453 : decode cL_isSo 453 = .ok (.iconst 0, 1) := by decide +kernel
theorem dL_isSo_454 : decode cL_isSo 454 = .ok (.istore 9, 2) := by decide +kernel
theorem dL_isSo_456 : decode cL_isSo 456 = .ok (.iload 9, 2) := by decide +kernel
theorem dL_isSo_458 : decode cL_isSo 458 = .ok (.ifCond .eq 10, 3) := by decide +kernel
theorem dL_isSo_461 : decode cL_isSo 461 = .ok (.aload_n 2, 1) := by decide +kernel
theorem dL_isSo_462 : decode cL_isSo 462 = .ok (.bipush 6, 2) := by decide +kernel
theorem dL_isSo_464 : decode cL_isSo 464 = .ok (.iaload, 1) := by decide +kernel
theorem dL_isSo_465 : decode cL_isSo 465 = .ok (.ifCond .ne 6, 3) := by decide +kernel
theorem dL_isSo_468 : decode cL_isSo 468 = .ok (.iload 9, 2) := by decide +kernel
theorem dL_isSo_470 : decode cL_isSo 470 = .ok (.ireturn, 1) := by decide +kernel
theorem dL_isSo_471 : decode cL_isSo 471 = .ok (.iload_n 1, 1) := by decide +kernel
theorem dL_isSo_472 : decode cL_isSo 472 = .ok (.bipush 6, 2) := by decide +kernel
theorem dL_isSo_474 : decode cL_isSo 474 = .ok (.ishr, 1) := by decide +kernel
theorem dL_isSo_475 : decode cL_isSo 475 = .ok (.aload_n 2, 1) := by decide +kernel
theorem dL_isSo_476 : decode cL_isSo 476 = .ok (.bipush 6, 2) := by decide +kernel
theorem dL_isSo_478 : decode cL_isSo 478 = .ok (.iaload, 1) := by decide +kernel
theorem dL_isSo_479 : decode cL_isSo 479 = .ok (.invokestatic 107, 3) := by decide +kernel
theorem dL_isSo_482 : decode cL_isSo 482 = .ok (.istore 15, 2) := by decide +kernel
theorem dL_isSo_484 : decode cL_isSo 484 = .ok (.aload_n 0, 1) := by decide +kernel
theorem dL_isSo_485 : decode cL_isSo 485 = .ok (.iload 15, 2) := by decide +kernel
theorem dL_isSo_487 : decode cL_isSo 487 = .ok (.iconst 0, 1) := by decide +kernel
theorem dL_isSo_488 : decode cL_isSo 488 = .ok (.invokevirtual 94, 3) := by decide +kernel
theorem dL_isSo_491 : decode cL_isSo 491 = .ok (.aload_n 3, 1) := by decide +kernel
theorem dL_isSo_492 : decode cL_isSo 492 = .ok (.iload 15, 2) := by decide +kernel
theorem dL_isSo_494 : decode cL_isSo 494 = .ok (.iaload, 1) := by decide +kernel
theorem dL_isSo_495 : decode cL_isSo 495 = .ok (.bipush 15, 2) := by decide +kernel
theorem dL_isSo_497 : decode cL_isSo 497 = .ok (.iand, 1) := by decide +kernel
theorem dL_isSo_498 : decode cL_isSo 498 = .ok (.if_icmp .ne 106, 3) := by decide +kernel
theorem dL_isSo_501 : decode cL_isSo 501 = .ok (.aload_n 0, 1) := by decide +kernel
theorem dL_isSo_502 : decode cL_isSo 502 = .ok (.iload 15, 2) := by decide +kernel
theorem dL_isSo_504 : decode cL_isSo 504 = .ok (.iconst 1, 1) := by decide +kernel
theorem dL_isSo_505 : decode cL_isSo 505 = .ok (.invokevirtual 94, 3) := by decide +kernel
theorem dL_isSo_508 : decode cL_isSo 508 = .ok (.iload 15, 2) := by decide +kernel
theorem dL_isSo_510 : decode cL_isSo 510 = .ok (.aload_n 3, 1) := by decide +kernel
theorem dL_isSo_511 : decode cL_isSo 511 = .ok (.invokestatic 10, 3) := by decide +kernel
theorem dL_isSo_514 : decode cL_isSo 514 = .ok (.if_icmp .ne 90, 3) := by decide +kernel
theorem dL_isSo_517 : decode cL_isSo 517 = .ok (.aload_n 0, 1) := by decide +kernel
theorem dL_isSo_518 : decode cL_isSo 518 = .ok (.iload 15, 2) := by decide +kernel
theorem dL_isSo_520 : decode cL_isSo 520 = .ok (.iconst 2, 1) := by decide +kernel
theorem dL_isSo_521 : decode cL_isSo 521 = .ok (.invokevirtual 94, 3) := by decide +kernel
theorem dL_isSo_524 : decode cL_isSo 524 = .ok (.aload_n 3, 1) := by decide +kernel
theorem dL_isSo_525 : decode cL_isSo 525 = .ok (.iload 15, 2) := by decide +kernel
theorem dL_isSo_527 : decode cL_isSo 527 = .ok (.iaload, 1) := by decide +kernel
theorem dL_isSo_528 : decode cL_isSo 528 = .ok (.bipush 8, 2) := by decide +kernel
theorem dL_isSo_530 : decode cL_isSo 530 = .ok (.ishr, 1) := by decide +kernel
theorem dL_isSo_531 : decode cL_isSo 531 = .ok (.iconst 1, 1) := by decide +kernel
theorem dL_isSo_532 : decode cL_isSo 532 = .ok (.iand, 1) := by decide +kernel
theorem dL_isSo_533 : decode cL_isSo 533 = .ok (.if_icmp .ne 71, 3) := by decide +kernel
theorem dL_isSo_536 : decode cL_isSo 536 = .ok (.aload_n 0, 1) := by decide +kernel
theorem dL_isSo_537 : decode cL_isSo 537 = .ok (.iload 15, 2) := by decide +kernel
theorem dL_isSo_539 : decode cL_isSo 539 = .ok (.iconst 3, 1) := by decide +kernel
theorem dL_isSo_540 : decode cL_isSo 540 = .ok (.invokevirtual 94, 3) := by decide +kernel
theorem dL_isSo_543 : decode cL_isSo 543 = .ok (.iload 15, 2) := by decide +kernel
theorem dL_isSo_545 : decode cL_isSo 545 = .ok (.aload_n 3, 1) := by decide +kernel
theorem dL_isSo_546 : decode cL_isSo 546 = .ok (.invokestatic 16, 3) := by decide +kernel
theorem dL_isSo_549 : decode cL_isSo 549 = .ok (.if_icmp .ne 55, 3) := by decide +kernel
theorem dL_isSo_552 : decode cL_isSo 552 = .ok (.aload_n 0, 1) := by decide +kernel
theorem dL_isSo_553 : decode cL_isSo 553 = .ok (.iload 15, 2) := by decide +kernel
theorem dL_isSo_555 : decode cL_isSo 555 = .ok (.iconst 4, 1) := by decide +kernel
theorem dL_isSo_556 : decode cL_isSo 556 = .ok (.invokevirtual 94, 3) := by decide +kernel
theorem dL_isSo_559 : decode cL_isSo 559 = .ok (.aload 4, 2) := by decide +kernel
theorem dL_isSo_561 : decode cL_isSo 561 = .ok (.iload 15, 2) := by decide +kernel
theorem dL_isSo_563 : decode cL_isSo 563 = .ok (.iaload, 1) := by decide +kernel
theorem dL_isSo_564 : decode cL_isSo 564 = .ok (.if_icmp .ne 40, 3) := by decide +kernel
theorem dL_isSo_567 : decode cL_isSo 567 = .ok (.aload_n 0, 1) := by decide +kernel
theorem dL_isSo_568 : decode cL_isSo 568 = .ok (.iload 15, 2) := by decide +kernel
theorem dL_isSo_570 : decode cL_isSo 570 = .ok (.iconst 5, 1) := by decide +kernel
theorem dL_isSo_571 : decode cL_isSo 571 = .ok (.invokevirtual 94, 3) := by decide +kernel
theorem dL_isSo_574 : decode cL_isSo 574 = .ok (.aload 5, 2) := by decide +kernel
theorem dL_isSo_576 : decode cL_isSo 576 = .ok (.iload 15, 2) := by decide +kernel
theorem dL_isSo_578 : decode cL_isSo 578 = .ok (.iaload, 1) := by decide +kernel
theorem dL_isSo_579 : decode cL_isSo 579 = .ok (.if_icmp .ne 25, 3) := by decide +kernel
theorem dL_isSo_582 : decode cL_isSo 582 = .ok (.aload_n 0, 1) := by decide +kernel
theorem dL_isSo_583 : decode cL_isSo 583 = .ok (.iload 15, 2) := by decide +kernel
theorem dL_isSo_585 : decode cL_isSo 585 = .ok (.bipush 6, 2) := by decide +kernel
theorem dL_isSo_587 : decode cL_isSo 587 = .ok (.invokevirtual 94, 3) := by decide +kernel
theorem dL_isSo_590 : decode cL_isSo 590 = .ok (.aload 6, 2) := by decide +kernel
theorem dL_isSo_592 : decode cL_isSo 592 = .ok (.iload 15, 2) := by decide +kernel
theorem dL_isSo_594 : decode cL_isSo 594 = .ok (.iaload, 1) := by decide +kernel
theorem dL_isSo_595 : decode cL_isSo 595 = .ok (.iconst 2, 1) := by decide +kernel
theorem dL_isSo_596 : decode cL_isSo 596 = .ok (.idiv, 1) := by decide +kernel
theorem dL_isSo_597 : decode cL_isSo 597 = .ok (.if_icmp .ne 7, 3) := by decide +kernel
theorem dL_isSo_600 : decode cL_isSo 600 = .ok (.iconst 1, 1) := by decide +kernel
theorem dL_isSo_601 : decode cL_isSo 601 = .ok (.goto 4, 3) := by decide +kernel
theorem dL_isSo_604 : decode cL_isSo 604 = .ok (.iconst 0, 1) := by decide +kernel
theorem dL_isSo_605 : decode cL_isSo 605 = .ok (.istore 9, 2) := by decide +kernel
theorem dL_isSo_607 : decode cL_isSo 607 = .ok (.iload 9, 2) := by decide +kernel
theorem dL_isSo_609 : decode cL_isSo 609 = .ok (.ifCond .eq 70, 3) := by decide +kernel
theorem dL_isSo_612 : decode cL_isSo 612 = .ok (.aload_n 0, 1) := by decide +kernel
theorem dL_isSo_613 : decode cL_isSo 613 = .ok (.iload_n 1, 1) := by decide +kernel
theorem dL_isSo_614 : decode cL_isSo 614 = .ok (.bipush 12, 2) := by decide +kernel
theorem dL_isSo_616 : decode cL_isSo 616 = .ok (.ishr, 1) := by decide +kernel
theorem dL_isSo_617 : decode cL_isSo 617 = .ok (.aload_n 2, 1) := by decide +kernel
theorem dL_isSo_618 : decode cL_isSo 618 = .ok (.bipush 7, 2) := by decide +kernel
theorem dL_isSo_620 : decode cL_isSo 620 = .ok (.iaload, 1) := by decide +kernel
theorem dL_isSo_621 : decode cL_isSo 621 = .ok (.invokestatic 107, 3) := by decide +kernel
theorem dL_isSo_624 : decode cL_isSo 624 = .ok (.iload_n 1, 1) := by decide +kernel
theorem dL_isSo_625 : decode cL_isSo 625 = .ok (.bipush 18, 2) := by decide +kernel
theorem dL_isSo_627 : decode cL_isSo 627 = .ok (.ishr, 1) := by decide +kernel
theorem dL_isSo_628 : decode cL_isSo 628 = .ok (.iconst 4, 1) := by decide +kernel
theorem dL_isSo_629 : decode cL_isSo 629 = .ok (.invokestatic 107, 3) := by decide +kernel
theorem dL_isSo_632 : decode cL_isSo 632 = .ok (.aload_n 2, 1) := by decide +kernel
theorem dL_isSo_633 : decode cL_isSo 633 = .ok (.aload_n 3, 1) := by decide +kernel
theorem dL_isSo_634 : decode cL_isSo 634 = .ok (.aload 6, 2) := by decide +kernel
theorem dL_isSo_636 : decode cL_isSo 636 = .ok (.aload 7, 2) := by decide +kernel
theorem dL_isSo_638 : decode cL_isSo 638 = .ok (.aload 8, 2) := by decide +kernel
theorem dL_isSo_640 : decode cL_isSo 640 = .ok (.invokestatic 119, 3) := by decide +kernel
theorem dL_isSo_643 : decode cL_isSo 643 = .ok (.ifCond .eq 36, 3) := by decide +kernel
theorem dL_isSo_646 : decode cL_isSo 646 = .ok (.aload_n 0, 1) := by decide +kernel
theorem dL_isSo_647 : decode cL_isSo 647 = .ok (.aload_n 2, 1) := by decide +kernel
theorem dL_isSo_648 : decode cL_isSo 648 = .ok (.bipush 7, 2) := by decide +kernel
theorem dL_isSo_650 : decode cL_isSo 650 = .ok (.iaload, 1) := by decide +kernel
theorem dL_isSo_651 : decode cL_isSo 651 = .ok (.iconst 1, 1) := by decide +kernel
theorem dL_isSo_652 : decode cL_isSo 652 = .ok (.isub, 1) := by decide +kernel
theorem dL_isSo_653 : decode cL_isSo 653 = .ok (.iload_n 1, 1) := by decide +kernel
theorem dL_isSo_654 : decode cL_isSo 654 = .ok (.bipush 20, 2) := by decide +kernel
theorem dL_isSo_656 : decode cL_isSo 656 = .ok (.ishr, 1) := by decide +kernel
theorem dL_isSo_657 : decode cL_isSo 657 = .ok (.iconst 3, 1) := by decide +kernel
theorem dL_isSo_658 : decode cL_isSo 658 = .ok (.invokestatic 107, 3) := by decide +kernel
theorem dL_isSo_661 : decode cL_isSo 661 = .ok (.aload_n 2, 1) := by decide +kernel
theorem dL_isSo_662 : decode cL_isSo 662 = .ok (.aload_n 3, 1) := by decide +kernel
theorem dL_isSo_663 : decode cL_isSo 663 = .ok (.aload 6, 2) := by decide +kernel
theorem dL_isSo_665 : decode cL_isSo 665 = .ok (.aload 7, 2) := by decide +kernel
theorem dL_isSo_667 : decode cL_isSo 667 = .ok (.aload 8, 2) := by decide +kernel
theorem dL_isSo_669 : decode cL_isSo 669 = .ok (.invokestatic 119, 3) := by decide +kernel
theorem dL_isSo_672 : decode cL_isSo 672 = .ok (.ifCond .eq 7, 3) := by decide +kernel
theorem dL_isSo_675 : decode cL_isSo 675 = .ok (.iconst 1, 1) := by decide +kernel
theorem dL_isSo_676 : decode cL_isSo 676 = .ok (.goto 4, 3) := by decide +kernel
theorem dL_isSo_679 : decode cL_isSo 679 = .ok (.iconst 0, 1) := by decide +kernel
theorem dL_isSo_680 : decode cL_isSo 680 = .ok (.ireturn, 1) := by decide +kernel
theorem dL_law_0 : decode cL_law 0 = .ok (.new 59, 3) := by decide +kernel
theorem dL_law_3 : decode cL_law 3 = .ok (.dup, 1) := by decide +kernel
theorem dL_law_4 : decode cL_law 4 = .ok (.invokespecial 123, 3) := by decide +kernel
theorem dL_law_7 : decode cL_law 7 = .ok (.astore_n 1, 1) := by decide +kernel
theorem dL_law_8 : decode cL_law 8 = .ok (.bipush 17, 2) := by decide +kernel
theorem dL_law_10 : decode cL_law 10 = .ok (.newarray .int, 2) := by decide +kernel
theorem dL_law_12 : decode cL_law 12 = .ok (.astore_n 2, 1) := by decide +kernel
theorem dL_law_13 : decode cL_law 13 = .ok (.bipush 48, 2) := by decide +kernel
theorem dL_law_15 : decode cL_law 15 = .ok (.newarray .int, 2) := by decide +kernel
theorem dL_law_17 : decode cL_law 17 = .ok (.astore_n 3, 1) := by decide +kernel
theorem dL_law_18 : decode cL_law 18 = .ok (.bipush 48, 2) := by decide +kernel
theorem dL_law_20 : decode cL_law 20 = .ok (.newarray .int, 2) := by decide +kernel
theorem dL_law_22 : decode cL_law 22 = .ok (.astore 4, 2) := by decide +kernel
theorem dL_law_24 : decode cL_law 24 = .ok (.bipush 48, 2) := by decide +kernel
theorem dL_law_26 : decode cL_law 26 = .ok (.newarray .int, 2) := by decide +kernel
theorem dL_law_28 : decode cL_law 28 = .ok (.astore 5, 2) := by decide +kernel
theorem dL_law_30 : decode cL_law 30 = .ok (.bipush 48, 2) := by decide +kernel
theorem dL_law_32 : decode cL_law 32 = .ok (.newarray .int, 2) := by decide +kernel
theorem dL_law_34 : decode cL_law 34 = .ok (.astore 6, 2) := by decide +kernel
theorem dL_law_36 : decode cL_law 36 = .ok (.bipush 48, 2) := by decide +kernel
theorem dL_law_38 : decode cL_law 38 = .ok (.newarray .int, 2) := by decide +kernel
theorem dL_law_40 : decode cL_law 40 = .ok (.astore 7, 2) := by decide +kernel
theorem dL_law_42 : decode cL_law 42 = .ok (.bipush 48, 2) := by decide +kernel
theorem dL_law_44 : decode cL_law 44 = .ok (.newarray .int, 2) := by decide +kernel
theorem dL_law_46 : decode cL_law 46 = .ok (.astore 8, 2) := by decide +kernel
theorem dL_law_48 : decode cL_law 48 = .ok (.aload_n 2, 1) := by decide +kernel
theorem dL_law_49 : decode cL_law 49 = .ok (.iconst 1, 1) := by decide +kernel
theorem dL_law_50 : decode cL_law 50 = .ok (.iconst 2, 1) := by decide +kernel
theorem dL_law_51 : decode cL_law 51 = .ok (.iastore, 1) := by decide +kernel
theorem dL_law_52 : decode cL_law 52 = .ok (.aload_n 2, 1) := by decide +kernel
theorem dL_law_53 : decode cL_law 53 = .ok (.iconst 2, 1) := by decide +kernel
theorem dL_law_54 : decode cL_law 54 = .ok (.bipush 6, 2) := by decide +kernel
theorem dL_law_56 : decode cL_law 56 = .ok (.iastore, 1) := by decide +kernel
theorem dL_law_57 : decode cL_law 57 = .ok (.aload_n 2, 1) := by decide +kernel
theorem dL_law_58 : decode cL_law 58 = .ok (.iconst 3, 1) := by decide +kernel
theorem dL_law_59 : decode cL_law 59 = .ok (.bipush 16, 2) := by decide +kernel
theorem dL_law_61 : decode cL_law 61 = .ok (.iastore, 1) := by decide +kernel
theorem dL_law_62 : decode cL_law 62 = .ok (.aload_n 2, 1) := by decide +kernel
theorem dL_law_63 : decode cL_law 63 = .ok (.iconst 4, 1) := by decide +kernel
theorem dL_law_64 : decode cL_law 64 = .ok (.iconst 4, 1) := by decide +kernel
theorem dL_law_65 : decode cL_law 65 = .ok (.iastore, 1) := by decide +kernel
theorem dL_law_66 : decode cL_law 66 = .ok (.aload_n 2, 1) := by decide +kernel
theorem dL_law_67 : decode cL_law 67 = .ok (.iconst 5, 1) := by decide +kernel
theorem dL_law_68 : decode cL_law 68 = .ok (.iconst 1, 1) := by decide +kernel
theorem dL_law_69 : decode cL_law 69 = .ok (.iastore, 1) := by decide +kernel
theorem dL_law_70 : decode cL_law 70 = .ok (.aload_n 2, 1) := by decide +kernel
theorem dL_law_71 : decode cL_law 71 = .ok (.bipush 8, 2) := by decide +kernel
theorem dL_law_73 : decode cL_law 73 = .ok (.bipush (-5), 2) := by decide +kernel
theorem dL_law_75 : decode cL_law 75 = .ok (.iastore, 1) := by decide +kernel
theorem dL_law_76 : decode cL_law 76 = .ok (.aload_n 2, 1) := by decide +kernel
theorem dL_law_77 : decode cL_law 77 = .ok (.bipush 9, 2) := by decide +kernel
theorem dL_law_79 : decode cL_law 79 = .ok (.bipush (-5), 2) := by decide +kernel
theorem dL_law_81 : decode cL_law 81 = .ok (.iastore, 1) := by decide +kernel
theorem dL_law_82 : decode cL_law 82 = .ok (.iconst 0, 1) := by decide +kernel
theorem dL_law_83 : decode cL_law 83 = .ok (.istore 9, 2) := by decide +kernel
theorem dL_law_85 : decode cL_law 85 = .ok (.iload 9, 2) := by decide +kernel
theorem dL_law_87 : decode cL_law 87 = .ok (.bipush 46, 2) := by decide +kernel
theorem dL_law_89 : decode cL_law 89 = .ok (.if_icmp .ge 425, 3) := by decide +kernel
theorem dL_law_92 : decode cL_law 92 = .ok (.aload_n 0, 1) := by decide +kernel
theorem dL_law_93 : decode cL_law 93 = .ok (.iconst 2, 1) := by decide +kernel
theorem dL_law_94 : decode cL_law 94 = .ok (.iload 9, 2) := by decide +kernel
theorem dL_law_96 : decode cL_law 96 = .ok (.imul, 1) := by decide +kernel
theorem dL_law_97 : decode cL_law 97 = .ok (.invokestatic 124, 3) := by decide +kernel
theorem dL_law_100 : decode cL_law 100 = .ok (.istore 10, 2) := by decide +kernel
theorem dL_law_102 : decode cL_law 102 = .ok (.aload_n 0, 1) := by decide +kernel
theorem dL_law_103 : decode cL_law 103 = .ok (.iconst 2, 1) := by decide +kernel
theorem dL_law_104 : decode cL_law 104 = .ok (.iload 9, 2) := by decide +kernel
theorem dL_law_106 : decode cL_law 106 = .ok (.imul, 1) := by decide +kernel
theorem dL_law_107 : decode cL_law 107 = .ok (.iconst 1, 1) := by decide +kernel
theorem dL_law_108 : decode cL_law 108 = .ok (.iadd, 1) := by decide +kernel
theorem dL_law_109 : decode cL_law 109 = .ok (.invokestatic 124, 3) := by decide +kernel
theorem dL_law_112 : decode cL_law 112 = .ok (.istore 11, 2) := by decide +kernel
theorem dL_law_114 : decode cL_law 114 = .ok (.iload 10, 2) := by decide +kernel
theorem dL_law_116 : decode cL_law 116 = .ok (.bipush 24, 2) := by decide +kernel
theorem dL_law_118 : decode cL_law 118 = .ok (.invokestatic 107, 3) := by decide +kernel
theorem dL_law_121 : decode cL_law 121 = .ok (.istore 12, 2) := by decide +kernel
theorem dL_law_123 : decode cL_law 123 = .ok (.iload 12, 2) := by decide +kernel
theorem dL_law_125 : decode cL_law 125 = .ok (.bipush 11, 2) := by decide +kernel
theorem dL_law_127 : decode cL_law 127 = .ok (.if_icmp .ge 7, 3) := by decide +kernel
theorem dL_law_130 : decode cL_law 130 = .ok (.iconst 0, 1) := by decide +kernel
theorem dL_law_131 : decode cL_law 131 = .ok (.goto 78, 3) := by decide +kernel
theorem dL_law_134 : decode cL_law 134 = .ok (.iload 12, 2) := by decide +kernel
theorem dL_law_136 : decode cL_law 136 = .ok (.bipush 13, 2) := by decide +kernel
theorem dL_law_138 : decode cL_law 138 = .ok (.if_icmp .ge 7, 3) := by decide +kernel
theorem dL_law_141 : decode cL_law 141 = .ok (.iconst 1, 1) := by decide +kernel
theorem dL_law_142 : decode cL_law 142 = .ok (.goto 67, 3) := by decide +kernel
theorem dL_law_145 : decode cL_law 145 = .ok (.iload 12, 2) := by decide +kernel
theorem dL_law_147 : decode cL_law 147 = .ok (.bipush 18, 2) := by decide +kernel
theorem dL_law_149 : decode cL_law 149 = .ok (.if_icmp .ge 7, 3) := by decide +kernel
theorem dL_law_152 : decode cL_law 152 = .ok (.iconst 2, 1) := by decide +kernel
theorem dL_law_153 : decode cL_law 153 = .ok (.goto 56, 3) := by decide +kernel
theorem dL_law_156 : decode cL_law 156 = .ok (.iload 12, 2) := by decide +kernel
theorem dL_law_158 : decode cL_law 158 = .ok (.bipush 18, 2) := by decide +kernel
theorem dL_law_160 : decode cL_law 160 = .ok (.if_icmp .ne 7, 3) := by decide +kernel
theorem dL_law_163 : decode cL_law 163 = .ok (.iconst 3, 1) := by decide +kernel
theorem dL_law_164 : decode cL_law 164 = .ok (.goto 45, 3) := by decide +kernel
theorem dL_law_167 : decode cL_law 167 = .ok (.iload 12, 2) := by decide +kernel
theorem dL_law_169 : decode cL_law 169 = .ok (.bipush 19, 2) := by decide +kernel
theorem dL_law_171 : decode cL_law 171 = .ok (.if_icmp .ne 7, 3) := by decide +kernel
theorem dL_law_174 : decode cL_law 174 = .ok (.iconst 4, 1) := by decide +kernel
theorem dL_law_175 : decode cL_law 175 = .ok (.goto 34, 3) := by decide +kernel
theorem dL_law_178 : decode cL_law 178 = .ok (.iload 12, 2) := by decide +kernel
theorem dL_law_180 : decode cL_law 180 = .ok (.bipush 22, 2) := by decide +kernel
theorem dL_law_182 : decode cL_law 182 = .ok (.if_icmp .ge 7, 3) := by decide +kernel
theorem dL_law_185 : decode cL_law 185 = .ok (.iconst 5, 1) := by decide +kernel
theorem dL_law_186 : decode cL_law 186 = .ok (.goto 23, 3) := by decide +kernel
theorem dL_law_189 : decode cL_law 189 = .ok (.iload 12, 2) := by decide +kernel
theorem dL_law_191 : decode cL_law 191 = .ok (.bipush 22, 2) := by decide +kernel
theorem dL_law_193 : decode cL_law 193 = .ok (.if_icmp .ne 15, 3) := by decide +kernel
theorem dL_law_196 : decode cL_law 196 = .ok (.iload 9, 2) := by decide +kernel
theorem dL_law_198 : decode cL_law 198 = .ok (.iconst 3, 1) := by decide +kernel
theorem dL_law_199 : decode cL_law 199 = .ok (.irem, 1) := by decide +kernel
theorem dL_law_200 : decode cL_law 200 = .ok (.ifCond .ne 8, 3) := by decide +kernel
theorem dL_law_203 : decode cL_law 203 = .ok (.bipush 6, 2) := by decide +kernel
theorem dL_law_205 : decode cL_law 205 = .ok (.goto 4, 3) := by decide +kernel
theorem dL_law_208 : decode cL_law 208 = .ok (.iconst 0, 1) := by decide +kernel
theorem dL_law_209 : decode cL_law 209 = .ok (.istore 12, 2) := by decide +kernel
theorem dL_law_211 : decode cL_law 211 = .ok (.iload 12, 2) := by decide +kernel
theorem dL_law_213 : decode cL_law 213 = .ok (.iconst 2, 1) := by decide +kernel
theorem dL_law_214 : decode cL_law 214 = .ok (.if_icmp .ne 32, 3) := by decide +kernel
theorem dL_law_217 : decode cL_law 217 = .ok (.iconst 1, 1) := by decide +kernel
theorem dL_law_218 : decode cL_law 218 = .ok (.iload 11, 2) := by decide +kernel
theorem dL_law_220 : decode cL_law 220 = .ok (.iload 11, 2) := by decide +kernel
theorem dL_law_222 : decode cL_law 222 = .ok (.bipush 20, 2) := by decide +kernel
theorem dL_law_224 : decode cL_law 224 = .ok (.ishr, 1) := by decide +kernel
theorem dL_law_225 : decode cL_law 225 = .ok (.bipush 6, 2) := by decide +kernel
theorem dL_law_227 : decode cL_law 227 = .ok (.invokestatic 107, 3) := by decide +kernel
theorem dL_law_230 : decode cL_law 230 = .ok (.ifCond .ne 8, 3) := by decide +kernel
theorem dL_law_233 : decode cL_law 233 = .ok (.bipush 40, 2) := by decide +kernel
theorem dL_law_235 : decode cL_law 235 = .ok (.goto 4, 3) := by decide +kernel
theorem dL_law_238 : decode cL_law 238 = .ok (.iconst 4, 1) := by decide +kernel
theorem dL_law_239 : decode cL_law 239 = .ok (.invokestatic 107, 3) := by decide +kernel
theorem dL_law_242 : decode cL_law 242 = .ok (.iadd, 1) := by decide +kernel
theorem dL_law_243 : decode cL_law 243 = .ok (.goto 25, 3) := by decide +kernel
theorem dL_law_246 : decode cL_law 246 = .ok (.iload 12, 2) := by decide +kernel
theorem dL_law_248 : decode cL_law 248 = .ok (.iconst 5, 1) := by decide +kernel
theorem dL_law_249 : decode cL_law 249 = .ok (.if_icmp .ne 12, 3) := by decide +kernel
theorem dL_law_252 : decode cL_law 252 = .ok (.iload 11, 2) := by decide +kernel
theorem dL_law_254 : decode cL_law 254 = .ok (.iconst 4, 1) := by decide +kernel
theorem dL_law_255 : decode cL_law 255 = .ok (.invokestatic 107, 3) := by decide +kernel
theorem dL_law_258 : decode cL_law 258 = .ok (.goto 10, 3) := by decide +kernel
theorem dL_law_261 : decode cL_law 261 = .ok (.iload 11, 2) := by decide +kernel
theorem dL_law_263 : decode cL_law 263 = .ok (.bipush 12, 2) := by decide +kernel
theorem dL_law_265 : decode cL_law 265 = .ok (.invokestatic 107, 3) := by decide +kernel
theorem dL_law_268 : decode cL_law 268 = .ok (.istore 13, 2) := by decide +kernel
theorem dL_law_270 : decode cL_law 270 = .ok (.iload 12, 2) := by decide +kernel
theorem dL_law_272 : decode cL_law 272 = .ok (.iconst 2, 1) := by decide +kernel
theorem dL_law_273 : decode cL_law 273 = .ok (.if_icmp .ge 17, 3) := by decide +kernel
theorem dL_law_276 : decode cL_law 276 = .ok (.iconst 1, 1) := by decide +kernel
theorem dL_law_277 : decode cL_law 277 = .ok (.iload 11, 2) := by decide +kernel
theorem dL_law_279 : decode cL_law 279 = .ok (.iconst 4, 1) := by decide +kernel
theorem dL_law_280 : decode cL_law 280 = .ok (.ishr, 1) := by decide +kernel
theorem dL_law_281 : decode cL_law 281 = .ok (.bipush 8, 2) := by decide +kernel
theorem dL_law_283 : decode cL_law 283 = .ok (.invokestatic 107, 3) := by decide +kernel
theorem dL_law_286 : decode cL_law 286 = .ok (.iadd, 1) := by decide +kernel
theorem dL_law_287 : decode cL_law 287 = .ok (.goto 68, 3) := by decide +kernel
theorem dL_law_290 : decode cL_law 290 = .ok (.iload 13, 2) := by decide +kernel
theorem dL_law_292 : decode cL_law 292 = .ok (.ifCond .ne 15, 3) := by decide +kernel
theorem dL_law_295 : decode cL_law 295 = .ok (.iload 11, 2) := by decide +kernel
theorem dL_law_297 : decode cL_law 297 = .ok (.iconst 4, 1) := by decide +kernel
theorem dL_law_298 : decode cL_law 298 = .ok (.ishr, 1) := by decide +kernel
theorem dL_law_299 : decode cL_law 299 = .ok (.bipush 21, 2) := by decide +kernel
theorem dL_law_301 : decode cL_law 301 = .ok (.invokestatic 107, 3) := by decide +kernel
theorem dL_law_304 : decode cL_law 304 = .ok (.goto 51, 3) := by decide +kernel
theorem dL_law_307 : decode cL_law 307 = .ok (.iload 13, 2) := by decide +kernel
theorem dL_law_309 : decode cL_law 309 = .ok (.iconst 1, 1) := by decide +kernel
theorem dL_law_310 : decode cL_law 310 = .ok (.if_icmp .ne 17, 3) := by decide +kernel
theorem dL_law_313 : decode cL_law 313 = .ok (.iconst 1, 1) := by decide +kernel
theorem dL_law_314 : decode cL_law 314 = .ok (.iload 11, 2) := by decide +kernel
theorem dL_law_316 : decode cL_law 316 = .ok (.iconst 4, 1) := by decide +kernel
theorem dL_law_317 : decode cL_law 317 = .ok (.ishr, 1) := by decide +kernel
theorem dL_law_318 : decode cL_law 318 = .ok (.bipush 40, 2) := by decide +kernel
theorem dL_law_320 : decode cL_law 320 = .ok (.invokestatic 107, 3) := by decide +kernel
theorem dL_law_323 : decode cL_law 323 = .ok (.iadd, 1) := by decide +kernel
theorem dL_law_324 : decode cL_law 324 = .ok (.goto 31, 3) := by decide +kernel
theorem dL_law_327 : decode cL_law 327 = .ok (.iload 13, 2) := by decide +kernel
theorem dL_law_329 : decode cL_law 329 = .ok (.iconst 2, 1) := by decide +kernel
theorem dL_law_330 : decode cL_law 330 = .ok (.if_icmp .ne 17, 3) := by decide +kernel
theorem dL_law_333 : decode cL_law 333 = .ok (.iconst 1, 1) := by decide +kernel
theorem dL_law_334 : decode cL_law 334 = .ok (.iload 11, 2) := by decide +kernel
theorem dL_law_336 : decode cL_law 336 = .ok (.iconst 4, 1) := by decide +kernel
theorem dL_law_337 : decode cL_law 337 = .ok (.ishr, 1) := by decide +kernel
theorem dL_law_338 : decode cL_law 338 = .ok (.bipush 20, 2) := by decide +kernel
theorem dL_law_340 : decode cL_law 340 = .ok (.invokestatic 107, 3) := by decide +kernel
theorem dL_law_343 : decode cL_law 343 = .ok (.iadd, 1) := by decide +kernel
theorem dL_law_344 : decode cL_law 344 = .ok (.goto 11, 3) := by decide +kernel
theorem dL_law_347 : decode cL_law 347 = .ok (.iload 11, 2) := by decide +kernel
theorem dL_law_349 : decode cL_law 349 = .ok (.iconst 4, 1) := by decide +kernel
theorem dL_law_350 : decode cL_law 350 = .ok (.ishr, 1) := by decide +kernel
theorem dL_law_351 : decode cL_law 351 = .ok (.iconst 2, 1) := by decide +kernel
theorem dL_law_352 : decode cL_law 352 = .ok (.invokestatic 107, 3) := by decide +kernel
theorem dL_law_355 : decode cL_law 355 = .ok (.istore 14, 2) := by decide +kernel
theorem dL_law_357 : decode cL_law 357 = .ok (.aload_n 1, 1) := by decide +kernel
theorem dL_law_358 : decode cL_law 358 = .ok (.invokestatic 128, 3) := by decide +kernel
theorem dL_law_361 : decode cL_law 361 = .ok (.lstore 15, 2) := by decide +kernel
theorem dL_law_363 : decode cL_law 363 = .ok (.aload_n 1, 1) := by decide +kernel
theorem dL_law_364 : decode cL_law 364 = .ok (.iload 12, 2) := by decide +kernel
theorem dL_law_366 : decode cL_law 366 = .ok (.iload 13, 2) := by decide +kernel
theorem dL_law_368 : decode cL_law 368 = .ok (.iload 14, 2) := by decide +kernel
theorem dL_law_370 : decode cL_law 370 = .ok (.invokestatic 132, 3) := by decide +kernel
theorem dL_law_373 : decode cL_law 373 = .ok (.istore 17, 2) := by decide +kernel
theorem dL_law_375 : decode cL_law 375 = .ok (.iload 17, 2) := by decide +kernel
theorem dL_law_377 : decode cL_law 377 = .ok (.ifCond .ge 14, 3) := by decide +kernel
theorem dL_law_380 : decode cL_law 380 = .ok (.iload 17, 2) := by decide +kernel
theorem dL_law_382 : decode cL_law 382 = .ok (.bipush (-5), 2) := by decide +kernel
theorem dL_law_384 : decode cL_law 384 = .ok (.if_icmp .eq 7, 3) := by decide +kernel
theorem dL_law_387 : decode cL_law 387 = .ok (.iconst 1, 1) := by decide +kernel
theorem dL_law_388 : decode cL_law 388 = .ok (.goto 4, 3) := by decide +kernel
theorem dL_law_391 : decode cL_law 391 = .ok (.iconst 0, 1) := by decide +kernel
theorem dL_law_392 : decode cL_law 392 = .ok (.istore 18, 2) := by decide +kernel
theorem dL_law_394 : decode cL_law 394 = .ok (.iload 18, 2) := by decide +kernel
theorem dL_law_396 : decode cL_law 396 = .ok (.ifCond .eq 16, 3) := by decide +kernel
theorem dL_law_399 : decode cL_law 399 = .ok (.aload_n 1, 1) := by decide +kernel
theorem dL_law_400 : decode cL_law 400 = .ok (.invokestatic 128, 3) := by decide +kernel
theorem dL_law_403 : decode cL_law 403 = .ok (.lload 15, 2) := by decide +kernel
theorem dL_law_405 : decode cL_law 405 = .ok (.lcmp, 1) := by decide +kernel
theorem dL_law_406 : decode cL_law 406 = .ok (.ifCond .eq 50, 3) := by decide +kernel
theorem dL_law_409 : decode cL_law 409 = .ok (.goto 45, 3) := by decide +kernel
theorem dL_law_412 : decode cL_law 412 = .ok (.iload 10, 2) := by decide +kernel
theorem dL_law_414 : decode cL_law 414 = .ok (.bipush 24, 2) := by decide +kernel
theorem dL_law_416 : decode cL_law 416 = .ok (.ishr, 1) := by decide +kernel
theorem dL_law_417 : decode cL_law 417 = .ok (.iconst 3, 1) := by decide +kernel
theorem dL_law_418 : decode cL_law 418 = .ok (.iand, 1) := by decide +kernel
theorem dL_law_419 : decode cL_law 419 = .ok (.ifCond .ne 37, 3) := by decide +kernel
theorem dL_law_422 : decode cL_law 422 = .ok (.aload_n 1, 1) := by decide +kernel
theorem dL_law_423 : decode cL_law 423 = .ok (.invokevirtual 136, 3) := by decide +kernel
theorem dL_law_426 : decode cL_law 426 = .ok (.ifCond .lt 28, 3) := by decide +kernel
theorem dL_law_429 : decode cL_law 429 = .ok (.aload_n 1, 1) := by decide +kernel
theorem dL_law_430 : decode cL_law 430 = .ok (.invokestatic 128, 3) := by decide +kernel
theorem dL_law_433 : decode cL_law 433 = .ok (.lload 15, 2) := by decide +kernel
theorem dL_law_435 : decode cL_law 435 = .ok (.lcmp, 1) := by decide +kernel
theorem dL_law_436 : decode cL_law 436 = .ok (.ifCond .ne 18, 3) := by decide +kernel
theorem dL_law_439 : decode cL_law 439 = .ok (.aload_n 1, 1) := by decide +kernel
theorem dL_law_440 : decode cL_law 440 = .ok (.iload 12, 2) := by decide +kernel
theorem dL_law_442 : decode cL_law 442 = .ok (.iload 13, 2) := by decide +kernel
theorem dL_law_444 : decode cL_law 444 = .ok (.iload 14, 2) := by decide +kernel
theorem dL_law_446 : decode cL_law 446 = .ok (.invokestatic 132, 3) := by decide +kernel
theorem dL_law_449 : decode cL_law 449 = .ok (.iload 17, 2) := by decide +kernel
theorem dL_law_451 : decode cL_law 451 = .ok (.if_icmp .eq 5, 3) := by decide +kernel
theorem dL_law_454 : decode cL_law 454 = .ok (.iconst 0, 1) := by decide +kernel
theorem dL_law_455 : decode cL_law 455 = .ok (.ireturn, 1) := by decide +kernel
theorem dL_law_456 : decode cL_law 456 = .ok (.iload 17, 2) := by decide +kernel
theorem dL_law_458 : decode cL_law 458 = .ok (.iload 12, 2) := by decide +kernel
theorem dL_law_460 : decode cL_law 460 = .ok (.iload 13, 2) := by decide +kernel
theorem dL_law_462 : decode cL_law 462 = .ok (.iload 14, 2) := by decide +kernel
theorem dL_law_464 : decode cL_law 464 = .ok (.aload_n 2, 1) := by decide +kernel
theorem dL_law_465 : decode cL_law 465 = .ok (.aload_n 3, 1) := by decide +kernel
theorem dL_law_466 : decode cL_law 466 = .ok (.aload 4, 2) := by decide +kernel
theorem dL_law_468 : decode cL_law 468 = .ok (.aload 5, 2) := by decide +kernel
theorem dL_law_470 : decode cL_law 470 = .ok (.aload 6, 2) := by decide +kernel
theorem dL_law_472 : decode cL_law 472 = .ok (.aload 7, 2) := by decide +kernel
theorem dL_law_474 : decode cL_law 474 = .ok (.aload 8, 2) := by decide +kernel
theorem dL_law_476 : decode cL_law 476 = .ok (.invokestatic 139, 3) := by decide +kernel
theorem dL_law_479 : decode cL_law 479 = .ok (.if_icmp .ne 27, 3) := by decide +kernel
theorem dL_law_482 : decode cL_law 482 = .ok (.aload_n 1, 1) := by decide +kernel
theorem dL_law_483 : decode cL_law 483 = .ok (.iload 11, 2) := by decide +kernel
theorem dL_law_485 : decode cL_law 485 = .ok (.bipush 6, 2) := by decide +kernel
theorem dL_law_487 : decode cL_law 487 = .ok (.ishr, 1) := by decide +kernel
theorem dL_law_488 : decode cL_law 488 = .ok (.aload_n 2, 1) := by decide +kernel
theorem dL_law_489 : decode cL_law 489 = .ok (.aload_n 3, 1) := by decide +kernel
theorem dL_law_490 : decode cL_law 490 = .ok (.aload 4, 2) := by decide +kernel
theorem dL_law_492 : decode cL_law 492 = .ok (.aload 5, 2) := by decide +kernel
theorem dL_law_494 : decode cL_law 494 = .ok (.aload 6, 2) := by decide +kernel
theorem dL_law_496 : decode cL_law 496 = .ok (.aload 7, 2) := by decide +kernel
theorem dL_law_498 : decode cL_law 498 = .ok (.aload 8, 2) := by decide +kernel
theorem dL_law_500 : decode cL_law 500 = .ok (.invokestatic 143, 3) := by decide +kernel
theorem dL_law_503 : decode cL_law 503 = .ok (.ifCond .ne 5, 3) := by decide +kernel
theorem dL_law_506 : decode cL_law 506 = .ok (.iconst 0, 1) := by decide +kernel
theorem dL_law_507 : decode cL_law 507 = .ok (.ireturn, 1) := by decide +kernel
theorem dL_law_508 : decode cL_law 508 = .ok (.iinc 9 1, 3) := by decide +kernel
theorem dL_law_511 : decode cL_law 511 = .ok (.goto (-426), 3) := by decide +kernel
theorem dL_law_514 : decode cL_law 514 = .ok (.iconst 1, 1) := by decide +kernel
theorem dL_law_515 : decode cL_law 515 = .ok (.ireturn, 1) := by decide +kernel
