theorem dX5_init_0 : decode cX5_init 0 = .ok (.aload_n 0, 1) := by decide +kernel
theorem dX5_init_1 : decode cX5_init 1 = .ok (.invokespecial 3, 3) := by decide +kernel
theorem dX5_init_4 : decode cX5_init 4 = .ok (.aload_n 0, 1) := by decide +kernel
theorem dX5_init_5 : decode cX5_init 5 = .ok (.bipush 80, 2) := by decide +kernel
theorem dX5_init_7 : decode cX5_init 7 = .ok (.newarray .char, 2) := by decide +kernel
theorem dX5_init_9 : decode cX5_init 9 = .ok (.putfield 11, 3) := by decide +kernel
theorem dX5_init_12 : decode cX5_init 12 = .ok (.return_, 1) := by decide +kernel
theorem dX5_length_0 : decode cX5_length 0 = .ok (.aload_n 0, 1) := by decide +kernel
theorem dX5_length_1 : decode cX5_length 1 = .ok (.getfield 15, 3) := by decide +kernel
theorem dX5_length_4 : decode cX5_length 4 = .ok (.ireturn, 1) := by decide +kernel
theorem dX5_add_0 : decode cX5_add 0 = .ok (.iload_n 1, 1) := by decide +kernel
theorem dX5_add_1 : decode cX5_add 1 = .ok (.bipush 32, 2) := by decide +kernel
theorem dX5_add_3 : decode cX5_add 3 = .ok (.if_icmp .lt 9, 3) := by decide +kernel
theorem dX5_add_6 : decode cX5_add 6 = .ok (.iload_n 1, 1) := by decide +kernel
theorem dX5_add_7 : decode cX5_add 7 = .ok (.bipush 126, 2) := by decide +kernel
theorem dX5_add_9 : decode cX5_add 9 = .ok (.if_icmp .le 6, 3) := by decide +kernel
theorem dX5_add_12 : decode cX5_add 12 = .ok (.bipush (-2), 2) := by decide +kernel
theorem dX5_add_14 : decode cX5_add 14 = .ok (.ireturn, 1) := by decide +kernel
theorem dX5_add_15 : decode cX5_add 15 = .ok (.aload_n 0, 1) := by decide +kernel
theorem dX5_add_16 : decode cX5_add 16 = .ok (.getfield 15, 3) := by decide +kernel
theorem dX5_add_19 : decode cX5_add 19 = .ok (.bipush 80, 2) := by decide +kernel
theorem dX5_add_21 : decode cX5_add 21 = .ok (.if_icmp .lt 6, 3) := by decide +kernel
theorem dX5_add_24 : decode cX5_add 24 = .ok (.bipush (-3), 2) := by decide +kernel
theorem dX5_add_26 : decode cX5_add 26 = .ok (.ireturn, 1) := by decide +kernel
theorem dX5_add_27 : decode cX5_add 27 = .ok (.aload_n 0, 1) := by decide +kernel
theorem dX5_add_28 : decode cX5_add 28 = .ok (.getfield 11, 3) := by decide +kernel
theorem dX5_add_31 : decode cX5_add 31 = .ok (.aload_n 0, 1) := by decide +kernel
theorem dX5_add_32 : decode cX5_add 32 = .ok (.getfield 15, 3) := by decide +kernel
theorem dX5_add_35 : decode cX5_add 35 = .ok (.iload_n 1, 1) := by decide +kernel
theorem dX5_add_36 : decode cX5_add 36 = .ok (.i2c, 1) := by decide +kernel
theorem dX5_add_37 : decode cX5_add 37 = .ok (.castore, 1) := by decide +kernel
theorem dX5_add_38 : decode cX5_add 38 = .ok (.aload_n 0, 1) := by decide +kernel
theorem dX5_add_39 : decode cX5_add 39 = .ok (.dup, 1) := by decide +kernel
theorem dX5_add_40 : decode cX5_add 40 = .ok (.getfield 15, 3) := by decide +kernel
theorem dX5_add_43 : decode cX5_add 43 = .ok (.iconst 1, 1) := by decide +kernel
theorem dX5_add_44 : decode cX5_add 44 = .ok (.iadd, 1) := by decide +kernel
theorem dX5_add_45 : decode cX5_add 45 = .ok (.putfield 15, 3) := by decide +kernel
theorem dX5_add_48 : decode cX5_add 48 = .ok (.aload_n 0, 1) := by decide +kernel
theorem dX5_add_49 : decode cX5_add 49 = .ok (.getfield 15, 3) := by decide +kernel
theorem dX5_add_52 : decode cX5_add 52 = .ok (.ireturn, 1) := by decide +kernel
theorem dX5_empty_0 : decode cX5_empty 0 = .ok (.aload_n 0, 1) := by decide +kernel
theorem dX5_empty_1 : decode cX5_empty 1 = .ok (.getfield 15, 3) := by decide +kernel
theorem dX5_empty_4 : decode cX5_empty 4 = .ok (.istore_n 1, 1) := by decide +kernel
theorem dX5_empty_5 : decode cX5_empty 5 = .ok (.aload_n 0, 1) := by decide +kernel
theorem dX5_empty_6 : decode cX5_empty 6 = .ok (.iconst 0, 1) := by decide +kernel
theorem dX5_empty_7 : decode cX5_empty 7 = .ok (.putfield 15, 3) := by decide +kernel
theorem dX5_empty_10 : decode cX5_empty 10 = .ok (.iload_n 1, 1) := by decide +kernel
theorem dX5_empty_11 : decode cX5_empty 11 = .ok (.ireturn, 1) := by decide +kernel
theorem dX5_characterAt_0 : decode cX5_characterAt 0 = .ok (.iload_n 1, 1) := by decide +kernel
theorem dX5_characterAt_1 : decode cX5_characterAt 1 = .ok (.ifCond .lt 20, 3) := by decide +kernel
theorem dX5_characterAt_4 : decode cX5_characterAt 4 = .ok (.iload_n 1, 1) := by decide +kernel
theorem dX5_characterAt_5 : decode cX5_characterAt 5 = .ok (.aload_n 0, 1) := by decide +kernel
theorem dX5_characterAt_6 : decode cX5_characterAt 6 = .ok (.getfield 15, 3) := by decide +kernel
theorem dX5_characterAt_9 : decode cX5_characterAt 9 = .ok (.if_icmp .ge 12, 3) := by decide +kernel
theorem dX5_characterAt_12 : decode cX5_characterAt 12 = .ok (.aload_n 0, 1) := by decide +kernel
theorem dX5_characterAt_13 : decode cX5_characterAt 13 = .ok (.getfield 11, 3) := by decide +kernel
theorem dX5_characterAt_16 : decode cX5_characterAt 16 = .ok (.iload_n 1, 1) := by decide +kernel
theorem dX5_characterAt_17 : decode cX5_characterAt 17 = .ok (.caload, 1) := by decide +kernel
theorem dX5_characterAt_18 : decode cX5_characterAt 18 = .ok (.goto 4, 3) := by decide +kernel
theorem dX5_characterAt_21 : decode cX5_characterAt 21 = .ok (.iconst 0, 1) := by decide +kernel
theorem dX5_characterAt_22 : decode cX5_characterAt 22 = .ok (.ireturn, 1) := by decide +kernel
theorem dX5_firstFault_0 : decode cX5_firstFault 0 = .ok (.iconst 0, 1) := by decide +kernel
theorem dX5_firstFault_1 : decode cX5_firstFault 1 = .ok (.istore_n 1, 1) := by decide +kernel
theorem dX5_firstFault_2 : decode cX5_firstFault 2 = .ok (.iconst 0, 1) := by decide +kernel
theorem dX5_firstFault_3 : decode cX5_firstFault 3 = .ok (.istore_n 2, 1) := by decide +kernel
theorem dX5_firstFault_4 : decode cX5_firstFault 4 = .ok (.iload_n 2, 1) := by decide +kernel
theorem dX5_firstFault_5 : decode cX5_firstFault 5 = .ok (.aload_n 0, 1) := by decide +kernel
theorem dX5_firstFault_6 : decode cX5_firstFault 6 = .ok (.getfield 15, 3) := by decide +kernel
theorem dX5_firstFault_9 : decode cX5_firstFault 9 = .ok (.if_icmp .ge 26, 3) := by decide +kernel
theorem dX5_firstFault_12 : decode cX5_firstFault 12 = .ok (.iload_n 1, 1) := by decide +kernel
theorem dX5_firstFault_13 : decode cX5_firstFault 13 = .ok (.aload_n 0, 1) := by decide +kernel
theorem dX5_firstFault_14 : decode cX5_firstFault 14 = .ok (.iload_n 2, 1) := by decide +kernel
theorem dX5_firstFault_15 : decode cX5_firstFault 15 = .ok (.invokevirtual 19, 3) := by decide +kernel
theorem dX5_firstFault_18 : decode cX5_firstFault 18 = .ok (.invokestatic 23, 3) := by decide +kernel
theorem dX5_firstFault_21 : decode cX5_firstFault 21 = .ok (.istore_n 1, 1) := by decide +kernel
theorem dX5_firstFault_22 : decode cX5_firstFault 22 = .ok (.iload_n 1, 1) := by decide +kernel
theorem dX5_firstFault_23 : decode cX5_firstFault 23 = .ok (.iconst (-1), 1) := by decide +kernel
theorem dX5_firstFault_24 : decode cX5_firstFault 24 = .ok (.if_icmp .ne 5, 3) := by decide +kernel
theorem dX5_firstFault_27 : decode cX5_firstFault 27 = .ok (.iload_n 2, 1) := by decide +kernel
theorem dX5_firstFault_28 : decode cX5_firstFault 28 = .ok (.ireturn, 1) := by decide +kernel
theorem dX5_firstFault_29 : decode cX5_firstFault 29 = .ok (.iinc 2 1, 3) := by decide +kernel
theorem dX5_firstFault_32 : decode cX5_firstFault 32 = .ok (.goto (-28), 3) := by decide +kernel
theorem dX5_firstFault_35 : decode cX5_firstFault 35 = .ok (.iload_n 1, 1) := by decide +kernel
theorem dX5_firstFault_36 : decode cX5_firstFault 36 = .ok (.invokestatic 27, 3) := by decide +kernel
theorem dX5_firstFault_39 : decode cX5_firstFault 39 = .ok (.ifCond .eq 8, 3) := by decide +kernel
theorem dX5_firstFault_42 : decode cX5_firstFault 42 = .ok (.bipush (-5), 2) := by decide +kernel
theorem dX5_firstFault_44 : decode cX5_firstFault 44 = .ok (.goto 7, 3) := by decide +kernel
theorem dX5_firstFault_47 : decode cX5_firstFault 47 = .ok (.aload_n 0, 1) := by decide +kernel
theorem dX5_firstFault_48 : decode cX5_firstFault 48 = .ok (.getfield 15, 3) := by decide +kernel
theorem dX5_firstFault_51 : decode cX5_firstFault 51 = .ok (.ireturn, 1) := by decide +kernel
theorem dX5_isComplete_0 : decode cX5_isComplete 0 = .ok (.iload_n 0, 1) := by decide +kernel
theorem dX5_isComplete_1 : decode cX5_isComplete 1 = .ok (.iconst 4, 1) := by decide +kernel
theorem dX5_isComplete_2 : decode cX5_isComplete 2 = .ok (.if_icmp .eq 21, 3) := by decide +kernel
theorem dX5_isComplete_5 : decode cX5_isComplete 5 = .ok (.iload_n 0, 1) := by decide +kernel
theorem dX5_isComplete_6 : decode cX5_isComplete 6 = .ok (.bipush 6, 2) := by decide +kernel
theorem dX5_isComplete_8 : decode cX5_isComplete 8 = .ok (.if_icmp .eq 15, 3) := by decide +kernel
theorem dX5_isComplete_11 : decode cX5_isComplete 11 = .ok (.iload_n 0, 1) := by decide +kernel
theorem dX5_isComplete_12 : decode cX5_isComplete 12 = .ok (.bipush 8, 2) := by decide +kernel
theorem dX5_isComplete_14 : decode cX5_isComplete 14 = .ok (.if_icmp .eq 9, 3) := by decide +kernel
theorem dX5_isComplete_17 : decode cX5_isComplete 17 = .ok (.iload_n 0, 1) := by decide +kernel
theorem dX5_isComplete_18 : decode cX5_isComplete 18 = .ok (.bipush 9, 2) := by decide +kernel
theorem dX5_isComplete_20 : decode cX5_isComplete 20 = .ok (.if_icmp .ne 7, 3) := by decide +kernel
theorem dX5_isComplete_23 : decode cX5_isComplete 23 = .ok (.iconst 1, 1) := by decide +kernel
theorem dX5_isComplete_24 : decode cX5_isComplete 24 = .ok (.goto 4, 3) := by decide +kernel
theorem dX5_isComplete_27 : decode cX5_isComplete 27 = .ok (.iconst 0, 1) := by decide +kernel
theorem dX5_isComplete_28 : decode cX5_isComplete 28 = .ok (.ireturn, 1) := by decide +kernel
theorem dX5_after_0 : decode cX5_after 0 = .ok (.iload_n 1, 1) := by decide +kernel
theorem dX5_after_1 : decode cX5_after 1 = .ok (.bipush 59, 2) := by decide +kernel
theorem dX5_after_3 : decode cX5_after 3 = .ok (.if_icmp .ne 16, 3) := by decide +kernel
theorem dX5_after_6 : decode cX5_after 6 = .ok (.iload_n 0, 1) := by decide +kernel
theorem dX5_after_7 : decode cX5_after 7 = .ok (.invokestatic 27, 3) := by decide +kernel
theorem dX5_after_10 : decode cX5_after 10 = .ok (.ifCond .eq 7, 3) := by decide +kernel
theorem dX5_after_13 : decode cX5_after 13 = .ok (.iconst 0, 1) := by decide +kernel
theorem dX5_after_14 : decode cX5_after 14 = .ok (.goto 4, 3) := by decide +kernel
theorem dX5_after_17 : decode cX5_after 17 = .ok (.iconst (-1), 1) := by decide +kernel
theorem dX5_after_18 : decode cX5_after 18 = .ok (.ireturn, 1) := by decide +kernel
theorem dX5_after_19 : decode cX5_after 19 = .ok (.iload_n 0, 1) := by decide +kernel
theorem dX5_after_20 : decode cX5_after 20 = .ok (.tableswitch 202 0 8 #[52, 57, 83, 95, 113, 126, 149, 168, 188], 52) := by decide +kernel
theorem dX5_after_72 : decode cX5_after 72 = .ok (.iload_n 1, 1) := by decide +kernel
theorem dX5_after_73 : decode cX5_after 73 = .ok (.invokestatic 31, 3) := by decide +kernel
theorem dX5_after_76 : decode cX5_after 76 = .ok (.ireturn, 1) := by decide +kernel
theorem dX5_after_77 : decode cX5_after 77 = .ok (.iload_n 1, 1) := by decide +kernel
theorem dX5_after_78 : decode cX5_after 78 = .ok (.bipush 58, 2) := by decide +kernel
theorem dX5_after_80 : decode cX5_after 80 = .ok (.if_icmp .ne 5, 3) := by decide +kernel
theorem dX5_after_83 : decode cX5_after 83 = .ok (.iconst 3, 1) := by decide +kernel
theorem dX5_after_84 : decode cX5_after 84 = .ok (.ireturn, 1) := by decide +kernel
theorem dX5_after_85 : decode cX5_after 85 = .ok (.iload_n 1, 1) := by decide +kernel
theorem dX5_after_86 : decode cX5_after 86 = .ok (.bipush 48, 2) := by decide +kernel
theorem dX5_after_88 : decode cX5_after 88 = .ok (.if_icmp .eq 9, 3) := by decide +kernel
theorem dX5_after_91 : decode cX5_after 91 = .ok (.iload_n 1, 1) := by decide +kernel
theorem dX5_after_92 : decode cX5_after 92 = .ok (.bipush 49, 2) := by decide +kernel
theorem dX5_after_94 : decode cX5_after 94 = .ok (.if_icmp .ne 7, 3) := by decide +kernel
theorem dX5_after_97 : decode cX5_after 97 = .ok (.iconst 2, 1) := by decide +kernel
theorem dX5_after_98 : decode cX5_after 98 = .ok (.goto 4, 3) := by decide +kernel
theorem dX5_after_101 : decode cX5_after 101 = .ok (.iconst (-1), 1) := by decide +kernel
theorem dX5_after_102 : decode cX5_after 102 = .ok (.ireturn, 1) := by decide +kernel
theorem dX5_after_103 : decode cX5_after 103 = .ok (.iload_n 1, 1) := by decide +kernel
theorem dX5_after_104 : decode cX5_after 104 = .ok (.bipush 58, 2) := by decide +kernel
theorem dX5_after_106 : decode cX5_after 106 = .ok (.if_icmp .ne 7, 3) := by decide +kernel
theorem dX5_after_109 : decode cX5_after 109 = .ok (.iconst 3, 1) := by decide +kernel
theorem dX5_after_110 : decode cX5_after 110 = .ok (.goto 4, 3) := by decide +kernel
theorem dX5_after_113 : decode cX5_after 113 = .ok (.iconst (-1), 1) := by decide +kernel
theorem dX5_after_114 : decode cX5_after 114 = .ok (.ireturn, 1) := by decide +kernel
theorem dX5_after_115 : decode cX5_after 115 = .ok (.iload_n 1, 1) := by decide +kernel
theorem dX5_after_116 : decode cX5_after 116 = .ok (.bipush 49, 2) := by decide +kernel
theorem dX5_after_118 : decode cX5_after 118 = .ok (.if_icmp .lt 13, 3) := by decide +kernel
theorem dX5_after_121 : decode cX5_after 121 = .ok (.iload_n 1, 1) := by decide +kernel
theorem dX5_after_122 : decode cX5_after 122 = .ok (.bipush 56, 2) := by decide +kernel
theorem dX5_after_124 : decode cX5_after 124 = .ok (.if_icmp .gt 7, 3) := by decide +kernel
theorem dX5_after_127 : decode cX5_after 127 = .ok (.iconst 4, 1) := by decide +kernel
theorem dX5_after_128 : decode cX5_after 128 = .ok (.goto 4, 3) := by decide +kernel
theorem dX5_after_131 : decode cX5_after 131 = .ok (.iconst (-1), 1) := by decide +kernel
theorem dX5_after_132 : decode cX5_after 132 = .ok (.ireturn, 1) := by decide +kernel
theorem dX5_after_133 : decode cX5_after 133 = .ok (.iload_n 1, 1) := by decide +kernel
theorem dX5_after_134 : decode cX5_after 134 = .ok (.bipush 33, 2) := by decide +kernel
theorem dX5_after_136 : decode cX5_after 136 = .ok (.if_icmp .ne 8, 3) := by decide +kernel
theorem dX5_after_139 : decode cX5_after 139 = .ok (.bipush 9, 2) := by decide +kernel
theorem dX5_after_141 : decode cX5_after 141 = .ok (.goto 4, 3) := by decide +kernel
theorem dX5_after_144 : decode cX5_after 144 = .ok (.iconst (-1), 1) := by decide +kernel
theorem dX5_after_145 : decode cX5_after 145 = .ok (.ireturn, 1) := by decide +kernel
theorem dX5_after_146 : decode cX5_after 146 = .ok (.iload_n 1, 1) := by decide +kernel
theorem dX5_after_147 : decode cX5_after 147 = .ok (.bipush 49, 2) := by decide +kernel
theorem dX5_after_149 : decode cX5_after 149 = .ok (.if_icmp .ne 6, 3) := by decide +kernel
theorem dX5_after_152 : decode cX5_after 152 = .ok (.bipush 6, 2) := by decide +kernel
theorem dX5_after_154 : decode cX5_after 154 = .ok (.ireturn, 1) := by decide +kernel
theorem dX5_after_155 : decode cX5_after 155 = .ok (.iload_n 1, 1) := by decide +kernel
theorem dX5_after_156 : decode cX5_after 156 = .ok (.invokestatic 35, 3) := by decide +kernel
theorem dX5_after_159 : decode cX5_after 159 = .ok (.ifCond .eq 8, 3) := by decide +kernel
theorem dX5_after_162 : decode cX5_after 162 = .ok (.bipush 9, 2) := by decide +kernel
theorem dX5_after_164 : decode cX5_after 164 = .ok (.goto 4, 3) := by decide +kernel
theorem dX5_after_167 : decode cX5_after 167 = .ok (.iconst (-1), 1) := by decide +kernel
theorem dX5_after_168 : decode cX5_after 168 = .ok (.ireturn, 1) := by decide +kernel
theorem dX5_after_169 : decode cX5_after 169 = .ok (.iload_n 1, 1) := by decide +kernel
theorem dX5_after_170 : decode cX5_after 170 = .ok (.bipush 48, 2) := by decide +kernel
theorem dX5_after_172 : decode cX5_after 172 = .ok (.if_icmp .eq 9, 3) := by decide +kernel
theorem dX5_after_175 : decode cX5_after 175 = .ok (.iload_n 1, 1) := by decide +kernel
theorem dX5_after_176 : decode cX5_after 176 = .ok (.bipush 49, 2) := by decide +kernel
theorem dX5_after_178 : decode cX5_after 178 = .ok (.if_icmp .ne 8, 3) := by decide +kernel
theorem dX5_after_181 : decode cX5_after 181 = .ok (.bipush 9, 2) := by decide +kernel
theorem dX5_after_183 : decode cX5_after 183 = .ok (.goto 4, 3) := by decide +kernel
theorem dX5_after_186 : decode cX5_after 186 = .ok (.iconst (-1), 1) := by decide +kernel
theorem dX5_after_187 : decode cX5_after 187 = .ok (.ireturn, 1) := by decide +kernel
theorem dX5_after_188 : decode cX5_after 188 = .ok (.iload_n 1, 1) := by decide +kernel
theorem dX5_after_189 : decode cX5_after 189 = .ok (.invokestatic 35, 3) := by decide +kernel
theorem dX5_after_192 : decode cX5_after 192 = .ok (.ifCond .eq 14, 3) := by decide +kernel
theorem dX5_after_195 : decode cX5_after 195 = .ok (.iload_n 1, 1) := by decide +kernel
theorem dX5_after_196 : decode cX5_after 196 = .ok (.bipush 48, 2) := by decide +kernel
theorem dX5_after_198 : decode cX5_after 198 = .ok (.if_icmp .eq 8, 3) := by decide +kernel
theorem dX5_after_201 : decode cX5_after 201 = .ok (.bipush 8, 2) := by decide +kernel
theorem dX5_after_203 : decode cX5_after 203 = .ok (.goto 4, 3) := by decide +kernel
theorem dX5_after_206 : decode cX5_after 206 = .ok (.iconst (-1), 1) := by decide +kernel
theorem dX5_after_207 : decode cX5_after 207 = .ok (.ireturn, 1) := by decide +kernel
theorem dX5_after_208 : decode cX5_after 208 = .ok (.iload_n 1, 1) := by decide +kernel
theorem dX5_after_209 : decode cX5_after 209 = .ok (.invokestatic 35, 3) := by decide +kernel
theorem dX5_after_212 : decode cX5_after 212 = .ok (.ifCond .eq 8, 3) := by decide +kernel
theorem dX5_after_215 : decode cX5_after 215 = .ok (.bipush 9, 2) := by decide +kernel
theorem dX5_after_217 : decode cX5_after 217 = .ok (.goto 4, 3) := by decide +kernel
theorem dX5_after_220 : decode cX5_after 220 = .ok (.iconst (-1), 1) := by decide +kernel
theorem dX5_after_221 : decode cX5_after 221 = .ok (.ireturn, 1) := by decide +kernel
theorem dX5_after_222 : decode cX5_after 222 = .ok (.iconst (-1), 1) := by decide +kernel
theorem dX5_after_223 : decode cX5_after 223 = .ok (.ireturn, 1) := by decide +kernel
theorem dX5_afterFirst_0 : decode cX5_afterFirst 0 = .ok (.iload_n 0, 1) := by decide +kernel
theorem dX5_afterFirst_1 : decode cX5_afterFirst 1 = .ok (.bipush 49, 2) := by decide +kernel
theorem dX5_afterFirst_3 : decode cX5_afterFirst 3 = .ok (.if_icmp .ne 5, 3) := by decide +kernel
theorem dX5_afterFirst_6 : decode cX5_afterFirst 6 = .ok (.iconst 1, 1) := by decide +kernel
theorem dX5_afterFirst_7 : decode cX5_afterFirst 7 = .ok (.ireturn, 1) := by decide +kernel
theorem dX5_afterFirst_8 : decode cX5_afterFirst 8 = .ok (.iload_n 0, 1) := by decide +kernel
theorem dX5_afterFirst_9 : decode cX5_afterFirst 9 = .ok (.invokestatic 35, 3) := by decide +kernel
theorem dX5_afterFirst_12 : decode cX5_afterFirst 12 = .ok (.ifCond .eq 5, 3) := by decide +kernel
theorem dX5_afterFirst_15 : decode cX5_afterFirst 15 = .ok (.iconst 2, 1) := by decide +kernel
theorem dX5_afterFirst_16 : decode cX5_afterFirst 16 = .ok (.ireturn, 1) := by decide +kernel
theorem dX5_afterFirst_17 : decode cX5_afterFirst 17 = .ok (.iload_n 0, 1) := by decide +kernel
theorem dX5_afterFirst_18 : decode cX5_afterFirst 18 = .ok (.bipush 102, 2) := by decide +kernel
theorem dX5_afterFirst_20 : decode cX5_afterFirst 20 = .ok (.if_icmp .eq 9, 3) := by decide +kernel
theorem dX5_afterFirst_23 : decode cX5_afterFirst 23 = .ok (.iload_n 0, 1) := by decide +kernel
theorem dX5_afterFirst_24 : decode cX5_afterFirst 24 = .ok (.bipush 119, 2) := by decide +kernel
theorem dX5_afterFirst_26 : decode cX5_afterFirst 26 = .ok (.if_icmp .ne 5, 3) := by decide +kernel
theorem dX5_afterFirst_29 : decode cX5_afterFirst 29 = .ok (.iconst 5, 1) := by decide +kernel
theorem dX5_afterFirst_30 : decode cX5_afterFirst 30 = .ok (.ireturn, 1) := by decide +kernel
theorem dX5_afterFirst_31 : decode cX5_afterFirst 31 = .ok (.iload_n 0, 1) := by decide +kernel
theorem dX5_afterFirst_32 : decode cX5_afterFirst 32 = .ok (.bipush 43, 2) := by decide +kernel
theorem dX5_afterFirst_34 : decode cX5_afterFirst 34 = .ok (.if_icmp .ne 6, 3) := by decide +kernel
theorem dX5_afterFirst_37 : decode cX5_afterFirst 37 = .ok (.bipush 7, 2) := by decide +kernel
theorem dX5_afterFirst_39 : decode cX5_afterFirst 39 = .ok (.ireturn, 1) := by decide +kernel
theorem dX5_afterFirst_40 : decode cX5_afterFirst 40 = .ok (.iload_n 0, 1) := by decide +kernel
theorem dX5_afterFirst_41 : decode cX5_afterFirst 41 = .ok (.bipush 42, 2) := by decide +kernel
theorem dX5_afterFirst_43 : decode cX5_afterFirst 43 = .ok (.if_icmp .ne 8, 3) := by decide +kernel
theorem dX5_afterFirst_46 : decode cX5_afterFirst 46 = .ok (.bipush 9, 2) := by decide +kernel
theorem dX5_afterFirst_48 : decode cX5_afterFirst 48 = .ok (.goto 4, 3) := by decide +kernel
theorem dX5_afterFirst_51 : decode cX5_afterFirst 51 = .ok (.iconst (-1), 1) := by decide +kernel
theorem dX5_afterFirst_52 : decode cX5_afterFirst 52 = .ok (.ireturn, 1) := by decide +kernel
theorem dX5_isDigit_0 : decode cX5_isDigit 0 = .ok (.iload_n 0, 1) := by decide +kernel
theorem dX5_isDigit_1 : decode cX5_isDigit 1 = .ok (.bipush 48, 2) := by decide +kernel
theorem dX5_isDigit_3 : decode cX5_isDigit 3 = .ok (.if_icmp .lt 13, 3) := by decide +kernel
theorem dX5_isDigit_6 : decode cX5_isDigit 6 = .ok (.iload_n 0, 1) := by decide +kernel
theorem dX5_isDigit_7 : decode cX5_isDigit 7 = .ok (.bipush 57, 2) := by decide +kernel
theorem dX5_isDigit_9 : decode cX5_isDigit 9 = .ok (.if_icmp .gt 7, 3) := by decide +kernel
theorem dX5_isDigit_12 : decode cX5_isDigit 12 = .ok (.iconst 1, 1) := by decide +kernel
theorem dX5_isDigit_13 : decode cX5_isDigit 13 = .ok (.goto 4, 3) := by decide +kernel
theorem dX5_isDigit_16 : decode cX5_isDigit 16 = .ok (.iconst 0, 1) := by decide +kernel
theorem dX5_isDigit_17 : decode cX5_isDigit 17 = .ok (.ireturn, 1) := by decide +kernel
theorem dX5_orders_0 : decode cX5_orders 0 = .ok (.iconst 1, 1) := by decide +kernel
theorem dX5_orders_1 : decode cX5_orders 1 = .ok (.istore_n 1, 1) := by decide +kernel
theorem dX5_orders_2 : decode cX5_orders 2 = .ok (.iconst 0, 1) := by decide +kernel
theorem dX5_orders_3 : decode cX5_orders 3 = .ok (.istore_n 2, 1) := by decide +kernel
theorem dX5_orders_4 : decode cX5_orders 4 = .ok (.iload_n 2, 1) := by decide +kernel
theorem dX5_orders_5 : decode cX5_orders 5 = .ok (.aload_n 0, 1) := by decide +kernel
theorem dX5_orders_6 : decode cX5_orders 6 = .ok (.getfield 15, 3) := by decide +kernel
theorem dX5_orders_9 : decode cX5_orders 9 = .ok (.if_icmp .ge 22, 3) := by decide +kernel
theorem dX5_orders_12 : decode cX5_orders 12 = .ok (.aload_n 0, 1) := by decide +kernel
theorem dX5_orders_13 : decode cX5_orders 13 = .ok (.iload_n 2, 1) := by decide +kernel
theorem dX5_orders_14 : decode cX5_orders 14 = .ok (.invokevirtual 19, 3) := by decide +kernel
theorem dX5_orders_17 : decode cX5_orders 17 = .ok (.bipush 59, 2) := by decide +kernel
theorem dX5_orders_19 : decode cX5_orders 19 = .ok (.if_icmp .ne 6, 3) := by decide +kernel
theorem dX5_orders_22 : decode cX5_orders 22 = .ok (.iinc 1 1, 3) := by decide +kernel
theorem dX5_orders_25 : decode cX5_orders 25 = .ok (.iinc 2 1, 3) := by decide +kernel
theorem dX5_orders_28 : decode cX5_orders 28 = .ok (.goto (-24), 3) := by decide +kernel
theorem dX5_orders_31 : decode cX5_orders 31 = .ok (.iload_n 1, 1) := by decide +kernel
theorem dX5_orders_32 : decode cX5_orders 32 = .ok (.ireturn, 1) := by decide +kernel
theorem dX5_goToStart_0 : decode cX5_goToStart 0 = .ok (.aload_n 0, 1) := by decide +kernel
theorem dX5_goToStart_1 : decode cX5_goToStart 1 = .ok (.iconst 0, 1) := by decide +kernel
theorem dX5_goToStart_2 : decode cX5_goToStart 2 = .ok (.putfield 39, 3) := by decide +kernel
theorem dX5_goToStart_5 : decode cX5_goToStart 5 = .ok (.return_, 1) := by decide +kernel
theorem dX5_readOrder_0 : decode cX5_readOrder 0 = .ok (.aload_n 0, 1) := by decide +kernel
theorem dX5_readOrder_1 : decode cX5_readOrder 1 = .ok (.aload_n 0, 1) := by decide +kernel
theorem dX5_readOrder_2 : decode cX5_readOrder 2 = .ok (.aload_n 0, 1) := by decide +kernel
theorem dX5_readOrder_3 : decode cX5_readOrder 3 = .ok (.getfield 39, 3) := by decide +kernel
theorem dX5_readOrder_6 : decode cX5_readOrder 6 = .ok (.invokevirtual 19, 3) := by decide +kernel
theorem dX5_readOrder_9 : decode cX5_readOrder 9 = .ok (.invokestatic 42, 3) := by decide +kernel
theorem dX5_readOrder_12 : decode cX5_readOrder 12 = .ok (.putfield 45, 3) := by decide +kernel
theorem dX5_readOrder_15 : decode cX5_readOrder 15 = .ok (.aload_n 0, 1) := by decide +kernel
theorem dX5_readOrder_16 : decode cX5_readOrder 16 = .ok (.getfield 45, 3) := by decide +kernel
theorem dX5_readOrder_19 : decode cX5_readOrder 19 = .ok (.ifCond .eq 13, 3) := by decide +kernel
theorem dX5_readOrder_22 : decode cX5_readOrder 22 = .ok (.aload_n 0, 1) := by decide +kernel
theorem dX5_readOrder_23 : decode cX5_readOrder 23 = .ok (.dup, 1) := by decide +kernel
theorem dX5_readOrder_24 : decode cX5_readOrder 24 = .ok (.getfield 39, 3) := by decide +kernel
theorem dX5_readOrder_27 : decode cX5_readOrder 27 = .ok (.iconst 1, 1) := by decide +kernel
theorem dX5_readOrder_28 : decode cX5_readOrder 28 = .ok (.iadd, 1) := by decide +kernel
theorem dX5_readOrder_29 : decode cX5_readOrder 29 = .ok (.putfield 39, 3) := by decide +kernel
theorem dX5_readOrder_32 : decode cX5_readOrder 32 = .ok (.aload_n 0, 1) := by decide +kernel
theorem dX5_readOrder_33 : decode cX5_readOrder 33 = .ok (.aload_n 0, 1) := by decide +kernel
theorem dX5_readOrder_34 : decode cX5_readOrder 34 = .ok (.invokevirtual 48, 3) := by decide +kernel
theorem dX5_readOrder_37 : decode cX5_readOrder 37 = .ok (.putfield 52, 3) := by decide +kernel
theorem dX5_readOrder_40 : decode cX5_readOrder 40 = .ok (.aload_n 0, 1) := by decide +kernel
theorem dX5_readOrder_41 : decode cX5_readOrder 41 = .ok (.getfield 45, 3) := by decide +kernel
theorem dX5_readOrder_44 : decode cX5_readOrder 44 = .ok (.ifCond .ne 7, 3) := by decide +kernel
theorem dX5_readOrder_47 : decode cX5_readOrder 47 = .ok (.aload_n 0, 1) := by decide +kernel
theorem dX5_readOrder_48 : decode cX5_readOrder 48 = .ok (.invokevirtual 55, 3) := by decide +kernel
theorem dX5_readOrder_51 : decode cX5_readOrder 51 = .ok (.aload_n 0, 1) := by decide +kernel
theorem dX5_readOrder_52 : decode cX5_readOrder 52 = .ok (.dup, 1) := by decide +kernel
theorem dX5_readOrder_53 : decode cX5_readOrder 53 = .ok (.getfield 39, 3) := by decide +kernel
theorem dX5_readOrder_56 : decode cX5_readOrder 56 = .ok (.iconst 1, 1) := by decide +kernel
theorem dX5_readOrder_57 : decode cX5_readOrder 57 = .ok (.iadd, 1) := by decide +kernel
theorem dX5_readOrder_58 : decode cX5_readOrder 58 = .ok (.putfield 39, 3) := by decide +kernel
theorem dX5_readOrder_61 : decode cX5_readOrder 61 = .ok (.return_, 1) := by decide +kernel
theorem dX5_kindOf_0 : decode cX5_kindOf 0 = .ok (.iload_n 0, 1) := by decide +kernel
theorem dX5_kindOf_1 : decode cX5_kindOf 1 = .ok (.lookupswitch 51 #[(42, 49), (43, 47), (102, 43), (119, 45)], 43) := by decide +kernel
theorem dX5_kindOf_44 : decode cX5_kindOf 44 = .ok (.iconst 1, 1) := by decide +kernel
theorem dX5_kindOf_45 : decode cX5_kindOf 45 = .ok (.ireturn, 1) := by decide +kernel
theorem dX5_kindOf_46 : decode cX5_kindOf 46 = .ok (.iconst 2, 1) := by decide +kernel
theorem dX5_kindOf_47 : decode cX5_kindOf 47 = .ok (.ireturn, 1) := by decide +kernel
theorem dX5_kindOf_48 : decode cX5_kindOf 48 = .ok (.iconst 3, 1) := by decide +kernel
theorem dX5_kindOf_49 : decode cX5_kindOf 49 = .ok (.ireturn, 1) := by decide +kernel
theorem dX5_kindOf_50 : decode cX5_kindOf 50 = .ok (.iconst 4, 1) := by decide +kernel
theorem dX5_kindOf_51 : decode cX5_kindOf 51 = .ok (.ireturn, 1) := by decide +kernel
theorem dX5_kindOf_52 : decode cX5_kindOf 52 = .ok (.iconst 0, 1) := by decide +kernel
theorem dX5_kindOf_53 : decode cX5_kindOf 53 = .ok (.ireturn, 1) := by decide +kernel
theorem dX5_readNumber_0 : decode cX5_readNumber 0 = .ok (.iconst 0, 1) := by decide +kernel
theorem dX5_readNumber_1 : decode cX5_readNumber 1 = .ok (.istore_n 1, 1) := by decide +kernel
theorem dX5_readNumber_2 : decode cX5_readNumber 2 = .ok (.iconst 0, 1) := by decide +kernel
theorem dX5_readNumber_3 : decode cX5_readNumber 3 = .ok (.istore_n 2, 1) := by decide +kernel
theorem dX5_readNumber_4 : decode cX5_readNumber 4 = .ok (.iload_n 2, 1) := by decide +kernel
theorem dX5_readNumber_5 : decode cX5_readNumber 5 = .ok (.iconst 2, 1) := by decide +kernel
theorem dX5_readNumber_6 : decode cX5_readNumber 6 = .ok (.if_icmp .ge 50, 3) := by decide +kernel
theorem dX5_readNumber_9 : decode cX5_readNumber 9 = .ok (.aload_n 0, 1) := by decide +kernel
theorem dX5_readNumber_10 : decode cX5_readNumber 10 = .ok (.aload_n 0, 1) := by decide +kernel
theorem dX5_readNumber_11 : decode cX5_readNumber 11 = .ok (.getfield 39, 3) := by decide +kernel
theorem dX5_readNumber_14 : decode cX5_readNumber 14 = .ok (.invokevirtual 19, 3) := by decide +kernel
theorem dX5_readNumber_17 : decode cX5_readNumber 17 = .ok (.invokestatic 35, 3) := by decide +kernel
theorem dX5_readNumber_20 : decode cX5_readNumber 20 = .ok (.ifCond .eq 36, 3) := by decide +kernel
theorem dX5_readNumber_23 : decode cX5_readNumber 23 = .ok (.bipush 10, 2) := by decide +kernel
theorem dX5_readNumber_25 : decode cX5_readNumber 25 = .ok (.iload_n 1, 1) := by decide +kernel
theorem dX5_readNumber_26 : decode cX5_readNumber 26 = .ok (.imul, 1) := by decide +kernel
theorem dX5_readNumber_27 : decode cX5_readNumber 27 = .ok (.aload_n 0, 1) := by decide +kernel
theorem dX5_readNumber_28 : decode cX5_readNumber 28 = .ok (.aload_n 0, 1) := by decide +kernel
theorem dX5_readNumber_29 : decode cX5_readNumber 29 = .ok (.getfield 39, 3) := by decide +kernel
theorem dX5_readNumber_32 : decode cX5_readNumber 32 = .ok (.invokevirtual 19, 3) := by decide +kernel
theorem dX5_readNumber_35 : decode cX5_readNumber 35 = .ok (.bipush 48, 2) := by decide +kernel
theorem dX5_readNumber_37 : decode cX5_readNumber 37 = .ok (.isub, 1) := by decide +kernel
theorem dX5_readNumber_38 : decode cX5_readNumber 38 = .ok (.iadd, 1) := by decide +kernel
theorem dX5_readNumber_39 : decode cX5_readNumber 39 = .ok (.istore_n 1, 1) := by decide +kernel
theorem dX5_readNumber_40 : decode cX5_readNumber 40 = .ok (.aload_n 0, 1) := by decide +kernel
theorem dX5_readNumber_41 : decode cX5_readNumber 41 = .ok (.dup, 1) := by decide +kernel
theorem dX5_readNumber_42 : decode cX5_readNumber 42 = .ok (.getfield 39, 3) := by decide +kernel
theorem dX5_readNumber_45 : decode cX5_readNumber 45 = .ok (.iconst 1, 1) := by decide +kernel
theorem dX5_readNumber_46 : decode cX5_readNumber 46 = .ok (.iadd, 1) := by decide +kernel
theorem dX5_readNumber_47 : decode cX5_readNumber 47 = .ok (.putfield 39, 3) := by decide +kernel
theorem dX5_readNumber_50 : decode cX5_readNumber 50 = .ok (.iinc 2 1, 3) := by decide +kernel
theorem dX5_readNumber_53 : decode cX5_readNumber 53 = .ok (.goto (-49), 3) := by decide +kernel
theorem dX5_readNumber_56 : decode cX5_readNumber 56 = .ok (.iload_n 1, 1) := by decide +kernel
theorem dX5_readNumber_57 : decode cX5_readNumber 57 = .ok (.ireturn, 1) := by decide +kernel
theorem dX5_readRecords_0 : decode cX5_readRecords 0 = .ok (.aload_n 0, 1) := by decide +kernel
theorem dX5_readRecords_1 : decode cX5_readRecords 1 = .ok (.dup, 1) := by decide +kernel
theorem dX5_readRecords_2 : decode cX5_readRecords 2 = .ok (.getfield 39, 3) := by decide +kernel
theorem dX5_readRecords_5 : decode cX5_readRecords 5 = .ok (.iconst 1, 1) := by decide +kernel
theorem dX5_readRecords_6 : decode cX5_readRecords 6 = .ok (.iadd, 1) := by decide +kernel
theorem dX5_readRecords_7 : decode cX5_readRecords 7 = .ok (.putfield 39, 3) := by decide +kernel
theorem dX5_readRecords_10 : decode cX5_readRecords 10 = .ok (.aload_n 0, 1) := by decide +kernel
theorem dX5_readRecords_11 : decode cX5_readRecords 11 = .ok (.aload_n 0, 1) := by decide +kernel
theorem dX5_readRecords_12 : decode cX5_readRecords 12 = .ok (.aload_n 0, 1) := by decide +kernel
theorem dX5_readRecords_13 : decode cX5_readRecords 13 = .ok (.getfield 39, 3) := by decide +kernel
theorem dX5_readRecords_16 : decode cX5_readRecords 16 = .ok (.invokevirtual 19, 3) := by decide +kernel
theorem dX5_readRecords_19 : decode cX5_readRecords 19 = .ok (.bipush 48, 2) := by decide +kernel
theorem dX5_readRecords_21 : decode cX5_readRecords 21 = .ok (.isub, 1) := by decide +kernel
theorem dX5_readRecords_22 : decode cX5_readRecords 22 = .ok (.putfield 58, 3) := by decide +kernel
theorem dX5_readRecords_25 : decode cX5_readRecords 25 = .ok (.aload_n 0, 1) := by decide +kernel
theorem dX5_readRecords_26 : decode cX5_readRecords 26 = .ok (.dup, 1) := by decide +kernel
theorem dX5_readRecords_27 : decode cX5_readRecords 27 = .ok (.getfield 39, 3) := by decide +kernel
theorem dX5_readRecords_30 : decode cX5_readRecords 30 = .ok (.iconst 1, 1) := by decide +kernel
theorem dX5_readRecords_31 : decode cX5_readRecords 31 = .ok (.iadd, 1) := by decide +kernel
theorem dX5_readRecords_32 : decode cX5_readRecords 32 = .ok (.putfield 39, 3) := by decide +kernel
theorem dX5_readRecords_35 : decode cX5_readRecords 35 = .ok (.aload_n 0, 1) := by decide +kernel
theorem dX5_readRecords_36 : decode cX5_readRecords 36 = .ok (.aload_n 0, 1) := by decide +kernel
theorem dX5_readRecords_37 : decode cX5_readRecords 37 = .ok (.aload_n 0, 1) := by decide +kernel
theorem dX5_readRecords_38 : decode cX5_readRecords 38 = .ok (.getfield 39, 3) := by decide +kernel
theorem dX5_readRecords_41 : decode cX5_readRecords 41 = .ok (.invokevirtual 19, 3) := by decide +kernel
theorem dX5_readRecords_44 : decode cX5_readRecords 44 = .ok (.bipush 33, 2) := by decide +kernel
theorem dX5_readRecords_46 : decode cX5_readRecords 46 = .ok (.if_icmp .ne 7, 3) := by decide +kernel
theorem dX5_readRecords_49 : decode cX5_readRecords 49 = .ok (.iconst 1, 1) := by decide +kernel
theorem dX5_readRecords_50 : decode cX5_readRecords 50 = .ok (.goto 4, 3) := by decide +kernel
theorem dX5_readRecords_53 : decode cX5_readRecords 53 = .ok (.iconst 0, 1) := by decide +kernel
theorem dX5_readRecords_54 : decode cX5_readRecords 54 = .ok (.putfield 61, 3) := by decide +kernel
theorem dX5_readRecords_57 : decode cX5_readRecords 57 = .ok (.aload_n 0, 1) := by decide +kernel
theorem dX5_readRecords_58 : decode cX5_readRecords 58 = .ok (.getfield 61, 3) := by decide +kernel
theorem dX5_readRecords_61 : decode cX5_readRecords 61 = .ok (.ifCond .eq 13, 3) := by decide +kernel
theorem dX5_readRecords_64 : decode cX5_readRecords 64 = .ok (.aload_n 0, 1) := by decide +kernel
theorem dX5_readRecords_65 : decode cX5_readRecords 65 = .ok (.dup, 1) := by decide +kernel
theorem dX5_readRecords_66 : decode cX5_readRecords 66 = .ok (.getfield 39, 3) := by decide +kernel
theorem dX5_readRecords_69 : decode cX5_readRecords 69 = .ok (.iconst 1, 1) := by decide +kernel
theorem dX5_readRecords_70 : decode cX5_readRecords 70 = .ok (.iadd, 1) := by decide +kernel
theorem dX5_readRecords_71 : decode cX5_readRecords 71 = .ok (.putfield 39, 3) := by decide +kernel
theorem dX5_readRecords_74 : decode cX5_readRecords 74 = .ok (.return_, 1) := by decide +kernel
theorem dX5_kind_0 : decode cX5_kind 0 = .ok (.aload_n 0, 1) := by decide +kernel
theorem dX5_kind_1 : decode cX5_kind 1 = .ok (.getfield 45, 3) := by decide +kernel
theorem dX5_kind_4 : decode cX5_kind 4 = .ok (.ireturn, 1) := by decide +kernel
theorem dX5_number_0 : decode cX5_number 0 = .ok (.aload_n 0, 1) := by decide +kernel
theorem dX5_number_1 : decode cX5_number 1 = .ok (.getfield 52, 3) := by decide +kernel
theorem dX5_number_4 : decode cX5_number 4 = .ok (.ireturn, 1) := by decide +kernel
theorem dX5_records_0 : decode cX5_records 0 = .ok (.aload_n 0, 1) := by decide +kernel
theorem dX5_records_1 : decode cX5_records 1 = .ok (.getfield 58, 3) := by decide +kernel
theorem dX5_records_4 : decode cX5_records 4 = .ok (.ireturn, 1) := by decide +kernel
theorem dX5_isUrgent_0 : decode cX5_isUrgent 0 = .ok (.aload_n 0, 1) := by decide +kernel
theorem dX5_isUrgent_1 : decode cX5_isUrgent 1 = .ok (.getfield 61, 3) := by decide +kernel
theorem dX5_isUrgent_4 : decode cX5_isUrgent 4 = .ok (.ireturn, 1) := by decide +kernel
theorem dX7_init_0 : decode cX7_init 0 = .ok (.aload_n 0, 1) := by decide +kernel
theorem dX7_init_1 : decode cX7_init 1 = .ok (.invokespecial 1, 3) := by decide +kernel
theorem dX7_init_4 : decode cX7_init 4 = .ok (.aload_n 0, 1) := by decide +kernel
theorem dX7_init_5 : decode cX7_init 5 = .ok (.new 7, 3) := by decide +kernel
theorem dX7_init_8 : decode cX7_init 8 = .ok (.dup, 1) := by decide +kernel
theorem dX7_init_9 : decode cX7_init 9 = .ok (.invokespecial 9, 3) := by decide +kernel
theorem dX7_init_12 : decode cX7_init 12 = .ok (.putfield 10, 3) := by decide +kernel
theorem dX7_init_15 : decode cX7_init 15 = .ok (.aload_n 0, 1) := by decide +kernel
theorem dX7_init_16 : decode cX7_init 16 = .ok (.new 7, 3) := by decide +kernel
theorem dX7_init_19 : decode cX7_init 19 = .ok (.dup, 1) := by decide +kernel
theorem dX7_init_20 : decode cX7_init 20 = .ok (.invokespecial 9, 3) := by decide +kernel
theorem dX7_init_23 : decode cX7_init 23 = .ok (.putfield 16, 3) := by decide +kernel
theorem dX7_init_26 : decode cX7_init 26 = .ok (.aload_n 0, 1) := by decide +kernel
theorem dX7_init_27 : decode cX7_init 27 = .ok (.new 19, 3) := by decide +kernel
theorem dX7_init_30 : decode cX7_init 30 = .ok (.dup, 1) := by decide +kernel
theorem dX7_init_31 : decode cX7_init 31 = .ok (.invokespecial 21, 3) := by decide +kernel
theorem dX7_init_34 : decode cX7_init 34 = .ok (.putfield 22, 3) := by decide +kernel
theorem dX7_init_37 : decode cX7_init 37 = .ok (.aload_n 0, 1) := by decide +kernel
theorem dX7_init_38 : decode cX7_init 38 = .ok (.new 26, 3) := by decide +kernel
theorem dX7_init_41 : decode cX7_init 41 = .ok (.dup, 1) := by decide +kernel
theorem dX7_init_42 : decode cX7_init 42 = .ok (.invokespecial 28, 3) := by decide +kernel
theorem dX7_init_45 : decode cX7_init 45 = .ok (.putfield 29, 3) := by decide +kernel
theorem dX7_init_48 : decode cX7_init 48 = .ok (.return_, 1) := by decide +kernel
theorem dX7_submit_0 : decode cX7_submit 0 = .ok (.aload_n 0, 1) := by decide +kernel
theorem dX7_submit_1 : decode cX7_submit 1 = .ok (.getfield 10, 3) := by decide +kernel
theorem dX7_submit_4 : decode cX7_submit 4 = .ok (.iload_n 1, 1) := by decide +kernel
theorem dX7_submit_5 : decode cX7_submit 5 = .ok (.iload_n 2, 1) := by decide +kernel
theorem dX7_submit_6 : decode cX7_submit 6 = .ok (.invokevirtual 33, 3) := by decide +kernel
theorem dX7_submit_9 : decode cX7_submit 9 = .ok (.istore 4, 2) := by decide +kernel
theorem dX7_submit_11 : decode cX7_submit 11 = .ok (.iload 4, 2) := by decide +kernel
theorem dX7_submit_13 : decode cX7_submit 13 = .ok (.ifCond .eq 6, 3) := by decide +kernel
theorem dX7_submit_16 : decode cX7_submit 16 = .ok (.iload 4, 2) := by decide +kernel
theorem dX7_submit_18 : decode cX7_submit 18 = .ok (.ireturn, 1) := by decide +kernel
theorem dX7_submit_19 : decode cX7_submit 19 = .ok (.aload_n 0, 1) := by decide +kernel
theorem dX7_submit_20 : decode cX7_submit 20 = .ok (.getfield 22, 3) := by decide +kernel
theorem dX7_submit_23 : decode cX7_submit 23 = .ok (.aload_n 0, 1) := by decide +kernel
theorem dX7_submit_24 : decode cX7_submit 24 = .ok (.getfield 10, 3) := by decide +kernel
theorem dX7_submit_27 : decode cX7_submit 27 = .ok (.invokevirtual 37, 3) := by decide +kernel
theorem dX7_submit_30 : decode cX7_submit 30 = .ok (.aload_n 0, 1) := by decide +kernel
theorem dX7_submit_31 : decode cX7_submit 31 = .ok (.getfield 10, 3) := by decide +kernel
theorem dX7_submit_34 : decode cX7_submit 34 = .ok (.iload_n 1, 1) := by decide +kernel
theorem dX7_submit_35 : decode cX7_submit 35 = .ok (.iload_n 2, 1) := by decide +kernel
theorem dX7_submit_36 : decode cX7_submit 36 = .ok (.iload_n 3, 1) := by decide +kernel
theorem dX7_submit_37 : decode cX7_submit 37 = .ok (.invokevirtual 41, 3) := by decide +kernel
theorem dX7_submit_40 : decode cX7_submit 40 = .ok (.ireturn, 1) := by decide +kernel
theorem dX7_fail_0 : decode cX7_fail 0 = .ok (.iload_n 1, 1) := by decide +kernel
theorem dX7_fail_1 : decode cX7_fail 1 = .ok (.invokestatic 45, 3) := by decide +kernel
theorem dX7_fail_4 : decode cX7_fail 4 = .ok (.ifCond .ne 5, 3) := by decide +kernel
theorem dX7_fail_7 : decode cX7_fail 7 = .ok (.iconst (-1), 1) := by decide +kernel
theorem dX7_fail_8 : decode cX7_fail 8 = .ok (.ireturn, 1) := by decide +kernel
theorem dX7_fail_9 : decode cX7_fail 9 = .ok (.aload_n 0, 1) := by decide +kernel
theorem dX7_fail_10 : decode cX7_fail 10 = .ok (.getfield 22, 3) := by decide +kernel
theorem dX7_fail_13 : decode cX7_fail 13 = .ok (.aload_n 0, 1) := by decide +kernel
theorem dX7_fail_14 : decode cX7_fail 14 = .ok (.getfield 10, 3) := by decide +kernel
theorem dX7_fail_17 : decode cX7_fail 17 = .ok (.invokevirtual 37, 3) := by decide +kernel
theorem dX7_fail_20 : decode cX7_fail 20 = .ok (.aload_n 0, 1) := by decide +kernel
theorem dX7_fail_21 : decode cX7_fail 21 = .ok (.getfield 10, 3) := by decide +kernel
theorem dX7_fail_24 : decode cX7_fail 24 = .ok (.iload_n 1, 1) := by decide +kernel
theorem dX7_fail_25 : decode cX7_fail 25 = .ok (.invokevirtual 49, 3) := by decide +kernel
theorem dX7_fail_28 : decode cX7_fail 28 = .ok (.ireturn, 1) := by decide +kernel
theorem dX7_withdraw_0 : decode cX7_withdraw 0 = .ok (.aload_n 0, 1) := by decide +kernel
theorem dX7_withdraw_1 : decode cX7_withdraw 1 = .ok (.getfield 10, 3) := by decide +kernel
theorem dX7_withdraw_4 : decode cX7_withdraw 4 = .ok (.iload_n 1, 1) := by decide +kernel
theorem dX7_withdraw_5 : decode cX7_withdraw 5 = .ok (.invokevirtual 53, 3) := by decide +kernel
theorem dX7_withdraw_8 : decode cX7_withdraw 8 = .ok (.istore_n 2, 1) := by decide +kernel
theorem dX7_withdraw_9 : decode cX7_withdraw 9 = .ok (.iload_n 2, 1) := by decide +kernel
theorem dX7_withdraw_10 : decode cX7_withdraw 10 = .ok (.ifCond .eq 5, 3) := by decide +kernel
theorem dX7_withdraw_13 : decode cX7_withdraw 13 = .ok (.iload_n 2, 1) := by decide +kernel
theorem dX7_withdraw_14 : decode cX7_withdraw 14 = .ok (.ireturn, 1) := by decide +kernel
theorem dX7_withdraw_15 : decode cX7_withdraw 15 = .ok (.aload_n 0, 1) := by decide +kernel
theorem dX7_withdraw_16 : decode cX7_withdraw 16 = .ok (.getfield 22, 3) := by decide +kernel
theorem dX7_withdraw_19 : decode cX7_withdraw 19 = .ok (.aload_n 0, 1) := by decide +kernel
theorem dX7_withdraw_20 : decode cX7_withdraw 20 = .ok (.getfield 10, 3) := by decide +kernel
theorem dX7_withdraw_23 : decode cX7_withdraw 23 = .ok (.invokevirtual 37, 3) := by decide +kernel
theorem dX7_withdraw_26 : decode cX7_withdraw 26 = .ok (.aload_n 0, 1) := by decide +kernel
theorem dX7_withdraw_27 : decode cX7_withdraw 27 = .ok (.getfield 10, 3) := by decide +kernel
theorem dX7_withdraw_30 : decode cX7_withdraw 30 = .ok (.iload_n 1, 1) := by decide +kernel
theorem dX7_withdraw_31 : decode cX7_withdraw 31 = .ok (.invokevirtual 56, 3) := by decide +kernel
theorem dX7_withdraw_34 : decode cX7_withdraw 34 = .ok (.ireturn, 1) := by decide +kernel
theorem dX7_crash_0 : decode cX7_crash 0 = .ok (.aload_n 0, 1) := by decide +kernel
theorem dX7_crash_1 : decode cX7_crash 1 = .ok (.getfield 22, 3) := by decide +kernel
theorem dX7_crash_4 : decode cX7_crash 4 = .ok (.aload_n 0, 1) := by decide +kernel
theorem dX7_crash_5 : decode cX7_crash 5 = .ok (.getfield 10, 3) := by decide +kernel
theorem dX7_crash_8 : decode cX7_crash 8 = .ok (.invokevirtual 37, 3) := by decide +kernel
theorem dX7_crash_11 : decode cX7_crash 11 = .ok (.aload_n 0, 1) := by decide +kernel
theorem dX7_crash_12 : decode cX7_crash 12 = .ok (.getfield 10, 3) := by decide +kernel
theorem dX7_crash_15 : decode cX7_crash 15 = .ok (.invokevirtual 59, 3) := by decide +kernel
theorem dX7_crash_18 : decode cX7_crash 18 = .ok (.ireturn, 1) := by decide +kernel
theorem dX7_tick_0 : decode cX7_tick 0 = .ok (.iload_n 1, 1) := by decide +kernel
theorem dX7_tick_1 : decode cX7_tick 1 = .ok (.iconst 1, 1) := by decide +kernel
theorem dX7_tick_2 : decode cX7_tick 2 = .ok (.if_icmp .lt 9, 3) := by decide +kernel
theorem dX7_tick_5 : decode cX7_tick 5 = .ok (.iload_n 1, 1) := by decide +kernel
theorem dX7_tick_6 : decode cX7_tick 6 = .ok (.bipush 99, 2) := by decide +kernel
theorem dX7_tick_8 : decode cX7_tick 8 = .ok (.if_icmp .le 6, 3) := by decide +kernel
theorem dX7_tick_11 : decode cX7_tick 11 = .ok (.bipush (-2), 2) := by decide +kernel
theorem dX7_tick_13 : decode cX7_tick 13 = .ok (.ireturn, 1) := by decide +kernel
theorem dX7_tick_14 : decode cX7_tick 14 = .ok (.aload_n 0, 1) := by decide +kernel
theorem dX7_tick_15 : decode cX7_tick 15 = .ok (.getfield 22, 3) := by decide +kernel
theorem dX7_tick_18 : decode cX7_tick 18 = .ok (.aload_n 0, 1) := by decide +kernel
theorem dX7_tick_19 : decode cX7_tick 19 = .ok (.getfield 10, 3) := by decide +kernel
theorem dX7_tick_22 : decode cX7_tick 22 = .ok (.invokevirtual 37, 3) := by decide +kernel
theorem dX7_tick_25 : decode cX7_tick 25 = .ok (.aload_n 0, 1) := by decide +kernel
theorem dX7_tick_26 : decode cX7_tick 26 = .ok (.getfield 10, 3) := by decide +kernel
theorem dX7_tick_29 : decode cX7_tick 29 = .ok (.iload_n 1, 1) := by decide +kernel
theorem dX7_tick_30 : decode cX7_tick 30 = .ok (.invokevirtual 63, 3) := by decide +kernel
theorem dX7_tick_33 : decode cX7_tick 33 = .ok (.ireturn, 1) := by decide +kernel
theorem dX7_set_0 : decode cX7_set 0 = .ok (.iload_n 1, 1) := by decide +kernel
theorem dX7_set_1 : decode cX7_set 1 = .ok (.iload_n 2, 1) := by decide +kernel
theorem dX7_set_2 : decode cX7_set 2 = .ok (.invokestatic 66, 3) := by decide +kernel
theorem dX7_set_5 : decode cX7_set 5 = .ok (.istore_n 3, 1) := by decide +kernel
theorem dX7_set_6 : decode cX7_set 6 = .ok (.iload_n 3, 1) := by decide +kernel
theorem dX7_set_7 : decode cX7_set 7 = .ok (.ifCond .eq 5, 3) := by decide +kernel
theorem dX7_set_10 : decode cX7_set 10 = .ok (.iload_n 3, 1) := by decide +kernel
theorem dX7_set_11 : decode cX7_set 11 = .ok (.ireturn, 1) := by decide +kernel
theorem dX7_set_12 : decode cX7_set 12 = .ok (.aload_n 0, 1) := by decide +kernel
theorem dX7_set_13 : decode cX7_set 13 = .ok (.getfield 22, 3) := by decide +kernel
theorem dX7_set_16 : decode cX7_set 16 = .ok (.aload_n 0, 1) := by decide +kernel
theorem dX7_set_17 : decode cX7_set 17 = .ok (.getfield 10, 3) := by decide +kernel
theorem dX7_set_20 : decode cX7_set 20 = .ok (.invokevirtual 37, 3) := by decide +kernel
theorem dX7_set_23 : decode cX7_set 23 = .ok (.aload_n 0, 1) := by decide +kernel
theorem dX7_set_24 : decode cX7_set 24 = .ok (.getfield 10, 3) := by decide +kernel
theorem dX7_set_27 : decode cX7_set 27 = .ok (.iload_n 1, 1) := by decide +kernel
theorem dX7_set_28 : decode cX7_set 28 = .ok (.iload_n 2, 1) := by decide +kernel
theorem dX7_set_29 : decode cX7_set 29 = .ok (.invokevirtual 71, 3) := by decide +kernel
theorem dX7_set_32 : decode cX7_set 32 = .ok (.ireturn, 1) := by decide +kernel
theorem dX7_append_0 : decode cX7_append 0 = .ok (.aload_n 0, 1) := by decide +kernel
theorem dX7_append_1 : decode cX7_append 1 = .ok (.getfield 29, 3) := by decide +kernel
theorem dX7_append_4 : decode cX7_append 4 = .ok (.iload_n 1, 1) := by decide +kernel
theorem dX7_append_5 : decode cX7_append 5 = .ok (.invokevirtual 74, 3) := by decide +kernel
theorem dX7_append_8 : decode cX7_append 8 = .ok (.ireturn, 1) := by decide +kernel
theorem dX7_clearText_0 : decode cX7_clearText 0 = .ok (.aload_n 0, 1) := by decide +kernel
theorem dX7_clearText_1 : decode cX7_clearText 1 = .ok (.getfield 29, 3) := by decide +kernel
theorem dX7_clearText_4 : decode cX7_clearText 4 = .ok (.invokevirtual 77, 3) := by decide +kernel
theorem dX7_clearText_7 : decode cX7_clearText 7 = .ok (.ireturn, 1) := by decide +kernel
theorem dX7_fault_0 : decode cX7_fault 0 = .ok (.aload_n 0, 1) := by decide +kernel
theorem dX7_fault_1 : decode cX7_fault 1 = .ok (.getfield 29, 3) := by decide +kernel
theorem dX7_fault_4 : decode cX7_fault 4 = .ok (.invokevirtual 80, 3) := by decide +kernel
theorem dX7_fault_7 : decode cX7_fault 7 = .ok (.ireturn, 1) := by decide +kernel
theorem dX7_run_0 : decode cX7_run 0 = .ok (.aload_n 0, 1) := by decide +kernel
theorem dX7_run_1 : decode cX7_run 1 = .ok (.getfield 29, 3) := by decide +kernel
theorem dX7_run_4 : decode cX7_run 4 = .ok (.invokevirtual 80, 3) := by decide +kernel
theorem dX7_run_7 : decode cX7_run 7 = .ok (.istore_n 1, 1) := by decide +kernel
theorem dX7_run_8 : decode cX7_run 8 = .ok (.iload_n 1, 1) := by decide +kernel
theorem dX7_run_9 : decode cX7_run 9 = .ok (.bipush (-5), 2) := by decide +kernel
theorem dX7_run_11 : decode cX7_run 11 = .ok (.if_icmp .eq 8, 3) := by decide +kernel
theorem dX7_run_14 : decode cX7_run 14 = .ok (.bipush (-100), 2) := by decide +kernel
theorem dX7_run_16 : decode cX7_run 16 = .ok (.iload_n 1, 1) := by decide +kernel
theorem dX7_run_17 : decode cX7_run 17 = .ok (.isub, 1) := by decide +kernel
theorem dX7_run_18 : decode cX7_run 18 = .ok (.ireturn, 1) := by decide +kernel
theorem dX7_run_19 : decode cX7_run 19 = .ok (.aload_n 0, 1) := by decide +kernel
theorem dX7_run_20 : decode cX7_run 20 = .ok (.getfield 22, 3) := by decide +kernel
theorem dX7_run_23 : decode cX7_run 23 = .ok (.aload_n 0, 1) := by decide +kernel
theorem dX7_run_24 : decode cX7_run 24 = .ok (.getfield 10, 3) := by decide +kernel
theorem dX7_run_27 : decode cX7_run 27 = .ok (.invokevirtual 37, 3) := by decide +kernel
theorem dX7_run_30 : decode cX7_run 30 = .ok (.aload_n 0, 1) := by decide +kernel
theorem dX7_run_31 : decode cX7_run 31 = .ok (.getfield 29, 3) := by decide +kernel
theorem dX7_run_34 : decode cX7_run 34 = .ok (.invokevirtual 83, 3) := by decide +kernel
theorem dX7_run_37 : decode cX7_run 37 = .ok (.istore_n 2, 1) := by decide +kernel
theorem dX7_run_38 : decode cX7_run 38 = .ok (.aload_n 0, 1) := by decide +kernel
theorem dX7_run_39 : decode cX7_run 39 = .ok (.getfield 29, 3) := by decide +kernel
theorem dX7_run_42 : decode cX7_run 42 = .ok (.invokevirtual 86, 3) := by decide +kernel
theorem dX7_run_45 : decode cX7_run 45 = .ok (.iconst 0, 1) := by decide +kernel
theorem dX7_run_46 : decode cX7_run 46 = .ok (.istore_n 3, 1) := by decide +kernel
theorem dX7_run_47 : decode cX7_run 47 = .ok (.iload_n 3, 1) := by decide +kernel
theorem dX7_run_48 : decode cX7_run 48 = .ok (.iload_n 2, 1) := by decide +kernel
theorem dX7_run_49 : decode cX7_run 49 = .ok (.if_icmp .ge 25, 3) := by decide +kernel
theorem dX7_run_52 : decode cX7_run 52 = .ok (.aload_n 0, 1) := by decide +kernel
theorem dX7_run_53 : decode cX7_run 53 = .ok (.getfield 29, 3) := by decide +kernel
theorem dX7_run_56 : decode cX7_run 56 = .ok (.invokevirtual 89, 3) := by decide +kernel
theorem dX7_run_59 : decode cX7_run 59 = .ok (.aload_n 0, 1) := by decide +kernel
theorem dX7_run_60 : decode cX7_run 60 = .ok (.invokevirtual 92, 3) := by decide +kernel
theorem dX7_run_63 : decode cX7_run 63 = .ok (.ifCond .ne 5, 3) := by decide +kernel
theorem dX7_run_66 : decode cX7_run 66 = .ok (.iload_n 3, 1) := by decide +kernel
theorem dX7_run_67 : decode cX7_run 67 = .ok (.ireturn, 1) := by decide +kernel
theorem dX7_run_68 : decode cX7_run 68 = .ok (.iinc 3 1, 3) := by decide +kernel
theorem dX7_run_71 : decode cX7_run 71 = .ok (.goto (-24), 3) := by decide +kernel
theorem dX7_run_74 : decode cX7_run 74 = .ok (.iload_n 2, 1) := by decide +kernel
theorem dX7_run_75 : decode cX7_run 75 = .ok (.ireturn, 1) := by decide +kernel
theorem dX7_carryOutOrder_0 : decode cX7_carryOutOrder 0 = .ok (.aload_n 0, 1) := by decide +kernel
theorem dX7_carryOutOrder_1 : decode cX7_carryOutOrder 1 = .ok (.getfield 29, 3) := by decide +kernel
theorem dX7_carryOutOrder_4 : decode cX7_carryOutOrder 4 = .ok (.invokevirtual 96, 3) := by decide +kernel
theorem dX7_carryOutOrder_7 : decode cX7_carryOutOrder 7 = .ok (.istore_n 1, 1) := by decide +kernel
theorem dX7_carryOutOrder_8 : decode cX7_carryOutOrder 8 = .ok (.aload_n 0, 1) := by decide +kernel
theorem dX7_carryOutOrder_9 : decode cX7_carryOutOrder 9 = .ok (.getfield 29, 3) := by decide +kernel
theorem dX7_carryOutOrder_12 : decode cX7_carryOutOrder 12 = .ok (.invokevirtual 99, 3) := by decide +kernel
theorem dX7_carryOutOrder_15 : decode cX7_carryOutOrder 15 = .ok (.tableswitch 120 0 3 #[29, 74, 85, 109], 29) := by decide +kernel
theorem dX7_carryOutOrder_44 : decode cX7_carryOutOrder 44 = .ok (.aload_n 0, 1) := by decide +kernel
theorem dX7_carryOutOrder_45 : decode cX7_carryOutOrder 45 = .ok (.getfield 10, 3) := by decide +kernel
theorem dX7_carryOutOrder_48 : decode cX7_carryOutOrder 48 = .ok (.iload_n 1, 1) := by decide +kernel
theorem dX7_carryOutOrder_49 : decode cX7_carryOutOrder 49 = .ok (.aload_n 0, 1) := by decide +kernel
theorem dX7_carryOutOrder_50 : decode cX7_carryOutOrder 50 = .ok (.getfield 29, 3) := by decide +kernel
theorem dX7_carryOutOrder_53 : decode cX7_carryOutOrder 53 = .ok (.invokevirtual 102, 3) := by decide +kernel
theorem dX7_carryOutOrder_56 : decode cX7_carryOutOrder 56 = .ok (.invokevirtual 33, 3) := by decide +kernel
theorem dX7_carryOutOrder_59 : decode cX7_carryOutOrder 59 = .ok (.ifCond .eq 5, 3) := by decide +kernel
theorem dX7_carryOutOrder_62 : decode cX7_carryOutOrder 62 = .ok (.iconst 0, 1) := by decide +kernel
theorem dX7_carryOutOrder_63 : decode cX7_carryOutOrder 63 = .ok (.ireturn, 1) := by decide +kernel
theorem dX7_carryOutOrder_64 : decode cX7_carryOutOrder 64 = .ok (.aload_n 0, 1) := by decide +kernel
theorem dX7_carryOutOrder_65 : decode cX7_carryOutOrder 65 = .ok (.getfield 10, 3) := by decide +kernel
theorem dX7_carryOutOrder_68 : decode cX7_carryOutOrder 68 = .ok (.iload_n 1, 1) := by decide +kernel
theorem dX7_carryOutOrder_69 : decode cX7_carryOutOrder 69 = .ok (.aload_n 0, 1) := by decide +kernel
theorem dX7_carryOutOrder_70 : decode cX7_carryOutOrder 70 = .ok (.getfield 29, 3) := by decide +kernel
theorem dX7_carryOutOrder_73 : decode cX7_carryOutOrder 73 = .ok (.invokevirtual 102, 3) := by decide +kernel
theorem dX7_carryOutOrder_76 : decode cX7_carryOutOrder 76 = .ok (.aload_n 0, 1) := by decide +kernel
theorem dX7_carryOutOrder_77 : decode cX7_carryOutOrder 77 = .ok (.getfield 29, 3) := by decide +kernel
theorem dX7_carryOutOrder_80 : decode cX7_carryOutOrder 80 = .ok (.invokevirtual 105, 3) := by decide +kernel
theorem dX7_carryOutOrder_83 : decode cX7_carryOutOrder 83 = .ok (.invokevirtual 41, 3) := by decide +kernel
theorem dX7_carryOutOrder_86 : decode cX7_carryOutOrder 86 = .ok (.pop, 1) := by decide +kernel
theorem dX7_carryOutOrder_87 : decode cX7_carryOutOrder 87 = .ok (.iconst 1, 1) := by decide +kernel
theorem dX7_carryOutOrder_88 : decode cX7_carryOutOrder 88 = .ok (.ireturn, 1) := by decide +kernel
theorem dX7_carryOutOrder_89 : decode cX7_carryOutOrder 89 = .ok (.aload_n 0, 1) := by decide +kernel
theorem dX7_carryOutOrder_90 : decode cX7_carryOutOrder 90 = .ok (.getfield 10, 3) := by decide +kernel
theorem dX7_carryOutOrder_93 : decode cX7_carryOutOrder 93 = .ok (.iload_n 1, 1) := by decide +kernel
theorem dX7_carryOutOrder_94 : decode cX7_carryOutOrder 94 = .ok (.invokevirtual 49, 3) := by decide +kernel
theorem dX7_carryOutOrder_97 : decode cX7_carryOutOrder 97 = .ok (.pop, 1) := by decide +kernel
theorem dX7_carryOutOrder_98 : decode cX7_carryOutOrder 98 = .ok (.iconst 1, 1) := by decide +kernel
theorem dX7_carryOutOrder_99 : decode cX7_carryOutOrder 99 = .ok (.ireturn, 1) := by decide +kernel
theorem dX7_carryOutOrder_100 : decode cX7_carryOutOrder 100 = .ok (.aload_n 0, 1) := by decide +kernel
theorem dX7_carryOutOrder_101 : decode cX7_carryOutOrder 101 = .ok (.getfield 10, 3) := by decide +kernel
theorem dX7_carryOutOrder_104 : decode cX7_carryOutOrder 104 = .ok (.iload_n 1, 1) := by decide +kernel
theorem dX7_carryOutOrder_105 : decode cX7_carryOutOrder 105 = .ok (.invokevirtual 53, 3) := by decide +kernel
theorem dX7_carryOutOrder_108 : decode cX7_carryOutOrder 108 = .ok (.ifCond .eq 5, 3) := by decide +kernel
theorem dX7_carryOutOrder_111 : decode cX7_carryOutOrder 111 = .ok (.iconst 0, 1) := by decide +kernel
theorem dX7_carryOutOrder_112 : decode cX7_carryOutOrder 112 = .ok (.ireturn, 1) := by decide +kernel
theorem dX7_carryOutOrder_113 : decode cX7_carryOutOrder 113 = .ok (.aload_n 0, 1) := by decide +kernel
theorem dX7_carryOutOrder_114 : decode cX7_carryOutOrder 114 = .ok (.getfield 10, 3) := by decide +kernel
theorem dX7_carryOutOrder_117 : decode cX7_carryOutOrder 117 = .ok (.iload_n 1, 1) := by decide +kernel
theorem dX7_carryOutOrder_118 : decode cX7_carryOutOrder 118 = .ok (.invokevirtual 56, 3) := by decide +kernel
theorem dX7_carryOutOrder_121 : decode cX7_carryOutOrder 121 = .ok (.pop, 1) := by decide +kernel
theorem dX7_carryOutOrder_122 : decode cX7_carryOutOrder 122 = .ok (.iconst 1, 1) := by decide +kernel
theorem dX7_carryOutOrder_123 : decode cX7_carryOutOrder 123 = .ok (.ireturn, 1) := by decide +kernel
theorem dX7_carryOutOrder_124 : decode cX7_carryOutOrder 124 = .ok (.aload_n 0, 1) := by decide +kernel
theorem dX7_carryOutOrder_125 : decode cX7_carryOutOrder 125 = .ok (.getfield 10, 3) := by decide +kernel
theorem dX7_carryOutOrder_128 : decode cX7_carryOutOrder 128 = .ok (.iload_n 1, 1) := by decide +kernel
theorem dX7_carryOutOrder_129 : decode cX7_carryOutOrder 129 = .ok (.invokevirtual 63, 3) := by decide +kernel
theorem dX7_carryOutOrder_132 : decode cX7_carryOutOrder 132 = .ok (.pop, 1) := by decide +kernel
theorem dX7_carryOutOrder_133 : decode cX7_carryOutOrder 133 = .ok (.iconst 1, 1) := by decide +kernel
theorem dX7_carryOutOrder_134 : decode cX7_carryOutOrder 134 = .ok (.ireturn, 1) := by decide +kernel
theorem dX7_carryOutOrder_135 : decode cX7_carryOutOrder 135 = .ok (.aload_n 0, 1) := by decide +kernel
theorem dX7_carryOutOrder_136 : decode cX7_carryOutOrder 136 = .ok (.getfield 10, 3) := by decide +kernel
theorem dX7_carryOutOrder_139 : decode cX7_carryOutOrder 139 = .ok (.invokevirtual 59, 3) := by decide +kernel
theorem dX7_carryOutOrder_142 : decode cX7_carryOutOrder 142 = .ok (.pop, 1) := by decide +kernel
theorem dX7_carryOutOrder_143 : decode cX7_carryOutOrder 143 = .ok (.iconst 1, 1) := by decide +kernel
theorem dX7_carryOutOrder_144 : decode cX7_carryOutOrder 144 = .ok (.ireturn, 1) := by decide +kernel
theorem dX7_undo_0 : decode cX7_undo 0 = .ok (.aload_n 0, 1) := by decide +kernel
theorem dX7_undo_1 : decode cX7_undo 1 = .ok (.getfield 22, 3) := by decide +kernel
theorem dX7_undo_4 : decode cX7_undo 4 = .ok (.aload_n 0, 1) := by decide +kernel
theorem dX7_undo_5 : decode cX7_undo 5 = .ok (.getfield 10, 3) := by decide +kernel
theorem dX7_undo_8 : decode cX7_undo 8 = .ok (.invokevirtual 108, 3) := by decide +kernel
theorem dX7_undo_11 : decode cX7_undo 11 = .ok (.ireturn, 1) := by decide +kernel
theorem dX7_save_0 : decode cX7_save 0 = .ok (.aload_n 0, 1) := by decide +kernel
theorem dX7_save_1 : decode cX7_save 1 = .ok (.getfield 16, 3) := by decide +kernel
theorem dX7_save_4 : decode cX7_save 4 = .ok (.aload_n 0, 1) := by decide +kernel
theorem dX7_save_5 : decode cX7_save 5 = .ok (.getfield 10, 3) := by decide +kernel
theorem dX7_save_8 : decode cX7_save 8 = .ok (.invokevirtual 112, 3) := by decide +kernel
theorem dX7_save_11 : decode cX7_save 11 = .ok (.aload_n 0, 1) := by decide +kernel
theorem dX7_save_12 : decode cX7_save 12 = .ok (.iconst 1, 1) := by decide +kernel
theorem dX7_save_13 : decode cX7_save 13 = .ok (.putfield 115, 3) := by decide +kernel
theorem dX7_save_16 : decode cX7_save 16 = .ok (.aload_n 0, 1) := by decide +kernel
theorem dX7_save_17 : decode cX7_save 17 = .ok (.getfield 10, 3) := by decide +kernel
theorem dX7_save_20 : decode cX7_save 20 = .ok (.invokevirtual 119, 3) := by decide +kernel
theorem dX7_save_23 : decode cX7_save 23 = .ok (.ireturn, 1) := by decide +kernel
theorem dX7_restore_0 : decode cX7_restore 0 = .ok (.aload_n 0, 1) := by decide +kernel
theorem dX7_restore_1 : decode cX7_restore 1 = .ok (.getfield 115, 3) := by decide +kernel
theorem dX7_restore_4 : decode cX7_restore 4 = .ok (.ifCond .ne 6, 3) := by decide +kernel
theorem dX7_restore_7 : decode cX7_restore 7 = .ok (.bipush (-4), 2) := by decide +kernel
theorem dX7_restore_9 : decode cX7_restore 9 = .ok (.ireturn, 1) := by decide +kernel
theorem dX7_restore_10 : decode cX7_restore 10 = .ok (.aload_n 0, 1) := by decide +kernel
theorem dX7_restore_11 : decode cX7_restore 11 = .ok (.getfield 22, 3) := by decide +kernel
theorem dX7_restore_14 : decode cX7_restore 14 = .ok (.aload_n 0, 1) := by decide +kernel
theorem dX7_restore_15 : decode cX7_restore 15 = .ok (.getfield 10, 3) := by decide +kernel
theorem dX7_restore_18 : decode cX7_restore 18 = .ok (.invokevirtual 37, 3) := by decide +kernel
theorem dX7_restore_21 : decode cX7_restore 21 = .ok (.aload_n 0, 1) := by decide +kernel
theorem dX7_restore_22 : decode cX7_restore 22 = .ok (.getfield 10, 3) := by decide +kernel
theorem dX7_restore_25 : decode cX7_restore 25 = .ok (.aload_n 0, 1) := by decide +kernel
theorem dX7_restore_26 : decode cX7_restore 26 = .ok (.getfield 16, 3) := by decide +kernel
theorem dX7_restore_29 : decode cX7_restore 29 = .ok (.invokevirtual 112, 3) := by decide +kernel
theorem dX7_restore_32 : decode cX7_restore 32 = .ok (.aload_n 0, 1) := by decide +kernel
theorem dX7_restore_33 : decode cX7_restore 33 = .ok (.getfield 10, 3) := by decide +kernel
theorem dX7_restore_36 : decode cX7_restore 36 = .ok (.invokevirtual 119, 3) := by decide +kernel
theorem dX7_restore_39 : decode cX7_restore 39 = .ok (.ireturn, 1) := by decide +kernel
theorem dX7_commit_0 : decode cX7_commit 0 = .ok (.aload_n 0, 1) := by decide +kernel
theorem dX7_commit_1 : decode cX7_commit 1 = .ok (.getfield 10, 3) := by decide +kernel
theorem dX7_commit_4 : decode cX7_commit 4 = .ok (.iload_n 1, 1) := by decide +kernel
theorem dX7_commit_5 : decode cX7_commit 5 = .ok (.iload_n 2, 1) := by decide +kernel
theorem dX7_commit_6 : decode cX7_commit 6 = .ok (.invokevirtual 122, 3) := by decide +kernel
theorem dX7_commit_9 : decode cX7_commit 9 = .ok (.ireturn, 1) := by decide +kernel
theorem dX7_group_0 : decode cX7_group 0 = .ok (.aload_n 0, 1) := by decide +kernel
theorem dX7_group_1 : decode cX7_group 1 = .ok (.getfield 10, 3) := by decide +kernel
theorem dX7_group_4 : decode cX7_group 4 = .ok (.iload_n 1, 1) := by decide +kernel
theorem dX7_group_5 : decode cX7_group 5 = .ok (.iload_n 2, 1) := by decide +kernel
theorem dX7_group_6 : decode cX7_group 6 = .ok (.invokevirtual 125, 3) := by decide +kernel
theorem dX7_group_9 : decode cX7_group 9 = .ok (.ireturn, 1) := by decide +kernel
theorem dX7_member_0 : decode cX7_member 0 = .ok (.aload_n 0, 1) := by decide +kernel
theorem dX7_member_1 : decode cX7_member 1 = .ok (.getfield 10, 3) := by decide +kernel
theorem dX7_member_4 : decode cX7_member 4 = .ok (.iload_n 1, 1) := by decide +kernel
theorem dX7_member_5 : decode cX7_member 5 = .ok (.iload_n 2, 1) := by decide +kernel
theorem dX7_member_6 : decode cX7_member 6 = .ok (.invokevirtual 128, 3) := by decide +kernel
theorem dX7_member_9 : decode cX7_member 9 = .ok (.ireturn, 1) := by decide +kernel
theorem dX7_open_0 : decode cX7_open 0 = .ok (.iload_n 1, 1) := by decide +kernel
theorem dX7_open_1 : decode cX7_open 1 = .ok (.invokestatic 45, 3) := by decide +kernel
theorem dX7_open_4 : decode cX7_open 4 = .ok (.ifCond .ne 5, 3) := by decide +kernel
theorem dX7_open_7 : decode cX7_open 7 = .ok (.iconst (-1), 1) := by decide +kernel
theorem dX7_open_8 : decode cX7_open 8 = .ok (.ireturn, 1) := by decide +kernel
theorem dX7_open_9 : decode cX7_open 9 = .ok (.aload_n 0, 1) := by decide +kernel
theorem dX7_open_10 : decode cX7_open 10 = .ok (.getfield 10, 3) := by decide +kernel
theorem dX7_open_13 : decode cX7_open 13 = .ok (.iload_n 1, 1) := by decide +kernel
theorem dX7_open_14 : decode cX7_open 14 = .ok (.invokevirtual 131, 3) := by decide +kernel
theorem dX7_open_17 : decode cX7_open 17 = .ok (.ireturn, 1) := by decide +kernel
theorem dX7_queued_0 : decode cX7_queued 0 = .ok (.iload_n 1, 1) := by decide +kernel
theorem dX7_queued_1 : decode cX7_queued 1 = .ok (.ifCond .ge 6, 3) := by decide +kernel
theorem dX7_queued_4 : decode cX7_queued 4 = .ok (.bipush (-2), 2) := by decide +kernel
theorem dX7_queued_6 : decode cX7_queued 6 = .ok (.ireturn, 1) := by decide +kernel
theorem dX7_queued_7 : decode cX7_queued 7 = .ok (.aload_n 0, 1) := by decide +kernel
theorem dX7_queued_8 : decode cX7_queued 8 = .ok (.getfield 10, 3) := by decide +kernel
theorem dX7_queued_11 : decode cX7_queued 11 = .ok (.iload_n 1, 1) := by decide +kernel
theorem dX7_queued_12 : decode cX7_queued 12 = .ok (.invokevirtual 134, 3) := by decide +kernel
theorem dX7_queued_15 : decode cX7_queued 15 = .ok (.ireturn, 1) := by decide +kernel
theorem dX7_count_0 : decode cX7_count 0 = .ok (.iload_n 1, 1) := by decide +kernel
theorem dX7_count_1 : decode cX7_count 1 = .ok (.bipush 10, 2) := by decide +kernel
theorem dX7_count_3 : decode cX7_count 3 = .ok (.if_icmp .ne 11, 3) := by decide +kernel
theorem dX7_count_6 : decode cX7_count 6 = .ok (.aload_n 0, 1) := by decide +kernel
theorem dX7_count_7 : decode cX7_count 7 = .ok (.getfield 22, 3) := by decide +kernel
theorem dX7_count_10 : decode cX7_count 10 = .ok (.invokevirtual 137, 3) := by decide +kernel
theorem dX7_count_13 : decode cX7_count 13 = .ok (.ireturn, 1) := by decide +kernel
theorem dX7_count_14 : decode cX7_count 14 = .ok (.iload_n 1, 1) := by decide +kernel
theorem dX7_count_15 : decode cX7_count 15 = .ok (.bipush 11, 2) := by decide +kernel
theorem dX7_count_17 : decode cX7_count 17 = .ok (.if_icmp .ne 11, 3) := by decide +kernel
theorem dX7_count_20 : decode cX7_count 20 = .ok (.aload_n 0, 1) := by decide +kernel
theorem dX7_count_21 : decode cX7_count 21 = .ok (.getfield 29, 3) := by decide +kernel
theorem dX7_count_24 : decode cX7_count 24 = .ok (.invokevirtual 140, 3) := by decide +kernel
theorem dX7_count_27 : decode cX7_count 27 = .ok (.ireturn, 1) := by decide +kernel
theorem dX7_count_28 : decode cX7_count 28 = .ok (.aload_n 0, 1) := by decide +kernel
theorem dX7_count_29 : decode cX7_count 29 = .ok (.getfield 10, 3) := by decide +kernel
theorem dX7_count_32 : decode cX7_count 32 = .ok (.iload_n 1, 1) := by decide +kernel
theorem dX7_count_33 : decode cX7_count 33 = .ok (.invokevirtual 143, 3) := by decide +kernel
theorem dX7_count_36 : decode cX7_count 36 = .ok (.ireturn, 1) := by decide +kernel
theorem dX7_total_0 : decode cX7_total 0 = .ok (.aload_n 0, 1) := by decide +kernel
theorem dX7_total_1 : decode cX7_total 1 = .ok (.getfield 10, 3) := by decide +kernel
theorem dX7_total_4 : decode cX7_total 4 = .ok (.iload_n 1, 1) := by decide +kernel
theorem dX7_total_5 : decode cX7_total 5 = .ok (.invokevirtual 146, 3) := by decide +kernel
theorem dX7_total_8 : decode cX7_total 8 = .ok (.ireturn, 1) := by decide +kernel
theorem dX7_answeredIn_0 : decode cX7_answeredIn 0 = .ok (.iload_n 1, 1) := by decide +kernel
theorem dX7_answeredIn_1 : decode cX7_answeredIn 1 = .ok (.invokestatic 45, 3) := by decide +kernel
theorem dX7_answeredIn_4 : decode cX7_answeredIn 4 = .ok (.ifCond .ne 5, 3) := by decide +kernel
theorem dX7_answeredIn_7 : decode cX7_answeredIn 7 = .ok (.iconst (-1), 1) := by decide +kernel
theorem dX7_answeredIn_8 : decode cX7_answeredIn 8 = .ok (.ireturn, 1) := by decide +kernel
theorem dX7_answeredIn_9 : decode cX7_answeredIn 9 = .ok (.aload_n 0, 1) := by decide +kernel
theorem dX7_answeredIn_10 : decode cX7_answeredIn 10 = .ok (.getfield 10, 3) := by decide +kernel
theorem dX7_answeredIn_13 : decode cX7_answeredIn 13 = .ok (.iload_n 1, 1) := by decide +kernel
theorem dX7_answeredIn_14 : decode cX7_answeredIn 14 = .ok (.invokevirtual 149, 3) := by decide +kernel
theorem dX7_answeredIn_17 : decode cX7_answeredIn 17 = .ok (.ireturn, 1) := by decide +kernel
theorem dX7_ifSubmitted_0 : decode cX7_ifSubmitted 0 = .ok (.aload_n 0, 1) := by decide +kernel
theorem dX7_ifSubmitted_1 : decode cX7_ifSubmitted 1 = .ok (.getfield 10, 3) := by decide +kernel
theorem dX7_ifSubmitted_4 : decode cX7_ifSubmitted 4 = .ok (.iload_n 1, 1) := by decide +kernel
theorem dX7_ifSubmitted_5 : decode cX7_ifSubmitted 5 = .ok (.invokevirtual 152, 3) := by decide +kernel
theorem dX7_ifSubmitted_8 : decode cX7_ifSubmitted 8 = .ok (.istore_n 3, 1) := by decide +kernel
theorem dX7_ifSubmitted_9 : decode cX7_ifSubmitted 9 = .ok (.iload_n 3, 1) := by decide +kernel
theorem dX7_ifSubmitted_10 : decode cX7_ifSubmitted 10 = .ok (.ifCond .eq 5, 3) := by decide +kernel
theorem dX7_ifSubmitted_13 : decode cX7_ifSubmitted 13 = .ok (.iload_n 3, 1) := by decide +kernel
theorem dX7_ifSubmitted_14 : decode cX7_ifSubmitted 14 = .ok (.ireturn, 1) := by decide +kernel
theorem dX7_ifSubmitted_15 : decode cX7_ifSubmitted 15 = .ok (.aload_n 0, 1) := by decide +kernel
theorem dX7_ifSubmitted_16 : decode cX7_ifSubmitted 16 = .ok (.getfield 10, 3) := by decide +kernel
theorem dX7_ifSubmitted_19 : decode cX7_ifSubmitted 19 = .ok (.iload_n 1, 1) := by decide +kernel
theorem dX7_ifSubmitted_20 : decode cX7_ifSubmitted 20 = .ok (.iload_n 2, 1) := by decide +kernel
theorem dX7_ifSubmitted_21 : decode cX7_ifSubmitted 21 = .ok (.invokevirtual 155, 3) := by decide +kernel
theorem dX7_ifSubmitted_24 : decode cX7_ifSubmitted 24 = .ok (.ireturn, 1) := by decide +kernel
theorem dX7_idleIn_0 : decode cX7_idleIn 0 = .ok (.aload_n 0, 1) := by decide +kernel
theorem dX7_idleIn_1 : decode cX7_idleIn 1 = .ok (.getfield 10, 3) := by decide +kernel
theorem dX7_idleIn_4 : decode cX7_idleIn 4 = .ok (.invokevirtual 159, 3) := by decide +kernel
theorem dX7_idleIn_7 : decode cX7_idleIn 7 = .ok (.ireturn, 1) := by decide +kernel
theorem dX7_mean_0 : decode cX7_mean 0 = .ok (.aload_n 0, 1) := by decide +kernel
theorem dX7_mean_1 : decode cX7_mean 1 = .ok (.getfield 10, 3) := by decide +kernel
theorem dX7_mean_4 : decode cX7_mean 4 = .ok (.invokevirtual 162, 3) := by decide +kernel
theorem dX7_mean_7 : decode cX7_mean 7 = .ok (.dreturn, 1) := by decide +kernel
