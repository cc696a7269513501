theorem dX5_init_0 : decode cX5_init 0 = .ok (.aload_n 0, 1) := by decide +kernel
theorem dX5_init_1 : decode cX5_init 1 = .ok (.invokespecial 3, 3) := by decide +kernel
theorem dX5_init_4 : decode cX5_init 4 = .ok (.aload_n 0, 1) := by decide +kernel
theorem dX5_init_5 : decode cX5_init 5 = .ok (.bipush 80, 2) := by decide +kernel
theorem dX5_init_7 : decode cX5_init 7 = .ok (.newarray .char, 2) := by decide +kernel
theorem dX5_init_9 : decode cX5_init 9 = .ok (.putfield 11, 3) := by decide +kernel
theorem dX5_init_12 : decode cX5_init 12 = .ok (.return_, 1) := by decide +kernel
theorem dX5_length_0 : decode cX5_length 0 = .ok (.aload_n 0, 1) := by decide +kernel
theorem dX5_length_1 : decode cX5_length 1 = .ok (.getfield 15, 3) := by decide +kernel
theorem dX5_length_4 : decode cX5_length 4 = .ok (.ireturn, 1) := by decide +kernel
theorem dX5_add_0 : decode cX5_add 0 = .ok (.iload_n 1, 1) := by decide +kernel
theorem dX5_add_1 : decode cX5_add 1 = .ok (.bipush 32, 2) := by decide +kernel
theorem dX5_add_3 : decode cX5_add 3 = .ok (.if_icmp .lt 9, 3) := by decide +kernel
theorem dX5_add_6 : decode cX5_add 6 = .ok (.iload_n 1, 1) := by decide +kernel
theorem dX5_add_7 : decode cX5_add 7 = .ok (.bipush 126, 2) := by decide +kernel
theorem dX5_add_9 : decode cX5_add 9 = .ok (.if_icmp .le 6, 3) := by decide +kernel
theorem dX5_add_12 : decode cX5_add 12 = .ok (.bipush (-2), 2) := by decide +kernel
theorem dX5_add_14 : decode cX5_add 14 = .ok (.ireturn, 1) := by decide +kernel
theorem dX5_add_15 : decode cX5_add 15 = .ok (.aload_n 0, 1) := by decide +kernel
theorem dX5_add_16 : decode cX5_add 16 = .ok (.getfield 15, 3) := by decide +kernel
theorem dX5_add_19 : decode cX5_add 19 = .ok (.bipush 80, 2) := by decide +kernel
theorem dX5_add_21 : decode cX5_add 21 = .ok (.if_icmp .lt 6, 3) := by decide +kernel
theorem dX5_add_24 : decode cX5_add 24 = .ok (.bipush (-3), 2) := by decide +kernel
theorem dX5_add_26 : decode cX5_add 26 = .ok (.ireturn, 1) := by decide +kernel
theorem dX5_add_27 : decode cX5_add 27 = .ok (.aload_n 0, 1) := by decide +kernel
theorem dX5_add_28 : decode cX5_add 28 = .ok (.getfield 11, 3) := by decide +kernel
theorem dX5_add_31 : decode cX5_add 31 = .ok (.aload_n 0, 1) := by decide +kernel
theorem dX5_add_32 : decode cX5_add 32 = .ok (.getfield 15, 3) := by decide +kernel
theorem dX5_add_35 : decode cX5_add 35 = .ok (.iload_n 1, 1) := by decide +kernel
theorem dX5_add_36 : decode cX5_add 36 = .ok (.i2c, 1) := by decide +kernel
theorem dX5_add_37 : decode cX5_add 37 = .ok (.castore, 1) := by decide +kernel
theorem dX5_add_38 : decode cX5_add 38 = .ok (.aload_n 0, 1) := by decide +kernel
theorem dX5_add_39 : decode cX5_add 39 = .ok (.dup, 1) := by decide +kernel
theorem dX5_add_40 : decode cX5_add 40 = .ok (.getfield 15, 3) := by decide +kernel
theorem dX5_add_43 : decode cX5_add 43 = .ok (.iconst 1, 1) := by decide +kernel
theorem dX5_add_44 : decode cX5_add 44 = .ok (.iadd, 1) := by decide +kernel
theorem dX5_add_45 : decode cX5_add 45 = .ok (.putfield 15, 3) := by decide +kernel
theorem dX5_add_48 : decode cX5_add 48 = .ok (.aload_n 0, 1) := by decide +kernel
theorem dX5_add_49 : decode cX5_add 49 = .ok (.getfield 15, 3) := by decide +kernel
theorem dX5_add_52 : decode cX5_add 52 = .ok (.ireturn, 1) := by decide +kernel
theorem dX5_empty_0 : decode cX5_empty 0 = .ok (.aload_n 0, 1) := by decide +kernel
theorem dX5_empty_1 : decode cX5_empty 1 = .ok (.getfield 15, 3) := by decide +kernel
theorem dX5_empty_4 : decode cX5_empty 4 = .ok (.istore_n 1, 1) := by decide +kernel
theorem dX5_empty_5 : decode cX5_empty 5 = .ok (.aload_n 0, 1) := by decide +kernel
theorem dX5_empty_6 : decode cX5_empty 6 = .ok (.iconst 0, 1) := by decide +kernel
theorem dX5_empty_7 : decode cX5_empty 7 = .ok (.putfield 15, 3) := by decide +kernel
theorem dX5_empty_10 : decode cX5_empty 10 = .ok (.iload_n 1, 1) := by decide +kernel
theorem dX5_empty_11 : decode cX5_empty 11 = .ok (.ireturn, 1) := by decide +kernel
theorem dX5_characterAt_0 : decode cX5_characterAt 0 = .ok (.iload_n 1, 1) := by decide +kernel
theorem dX5_characterAt_1 : decode cX5_characterAt 1 = .ok (.ifCond .lt 20, 3) := by decide +kernel
theorem dX5_characterAt_4 : decode cX5_characterAt 4 = .ok (.iload_n 1, 1) := by decide +kernel
theorem dX5_characterAt_5 : decode cX5_characterAt 5 = .ok (.aload_n 0, 1) := by decide +kernel
theorem dX5_characterAt_6 : decode cX5_characterAt 6 = .ok (.getfield 15, 3) := by decide +kernel
theorem dX5_characterAt_9 : decode cX5_characterAt 9 = .ok (.if_icmp .ge 12, 3) := by decide +kernel
theorem dX5_characterAt_12 : decode cX5_characterAt 12 = .ok (.aload_n 0, 1) := by decide +kernel
theorem dX5_characterAt_13 : decode cX5_characterAt 13 = .ok (.getfield 11, 3) := by decide +kernel
theorem dX5_characterAt_16 : decode cX5_characterAt 16 = .ok (.iload_n 1, 1) := by decide +kernel
theorem dX5_characterAt_17 : decode cX5_characterAt 17 = .ok (.caload, 1) := by decide +kernel
theorem dX5_characterAt_18 : decode cX5_characterAt 18 = .ok (.goto 4, 3) := by decide +kernel
theorem dX5_characterAt_21 : decode cX5_characterAt 21 = .ok (.iconst 0, 1) := by decide +kernel
theorem dX5_characterAt_22 : decode cX5_characterAt 22 = .ok (.ireturn, 1) := by decide +kernel
set_option maxRecDepth 20000 in
theorem ggX5_firstFault_X5_characterAt : GoodIn wsX5_firstFault wsX5_characterAt := goodIn_r _ [6, 1, 7, 20, 21, 22, 23, 24, 25, 26] (by decide +kernel) (by decide +kernel)
set_option maxRecDepth 20000 in
theorem gX5_firstFault_X5_characterAt : GoodIn wsX5_firstFault (wsV RX5 19 RX5 yX5_characterAt wsX5_characterAt) := goodIn_app (goodIn_of _ (by decide +kernel)) ggX5_firstFault_X5_characterAt
set_option maxRecDepth 20000 in
theorem ggX5_firstFault_X5_after : GoodIn wsX5_firstFault wsX5_after := goodIn_r _ [10, 11, 12, 5, 13, 14, 15, 16, 17, 18, 19] (by decide +kernel) (by decide +kernel)
set_option maxRecDepth 20000 in
theorem gX5_firstFault_X5_after : GoodIn wsX5_firstFault (va_wsS RX5 23 yX5_after wsX5_after) := goodIn_app (goodIn_of _ (by decide +kernel)) ggX5_firstFault_X5_after
set_option maxRecDepth 20000 in
theorem ggX5_firstFault_X5_isComplete : GoodIn wsX5_firstFault wsX5_isComplete := goodIn_r _ [13] (by decide +kernel) (by decide +kernel)
set_option maxRecDepth 20000 in
theorem gX5_firstFault_X5_isComplete : GoodIn wsX5_firstFault (va_wsS RX5 27 yX5_isComplete wsX5_isComplete) := goodIn_app (goodIn_of _ (by decide +kernel)) ggX5_firstFault_X5_isComplete
theorem dX5_firstFault_0 : decode cX5_firstFault 0 = .ok (.iconst 0, 1) := by decide +kernel
theorem dX5_firstFault_1 : decode cX5_firstFault 1 = .ok (.istore_n 1, 1) := by decide +kernel
theorem dX5_firstFault_2 : decode cX5_firstFault 2 = .ok (.iconst 0, 1) := by decide +kernel
theorem dX5_firstFault_3 : decode cX5_firstFault 3 = .ok (.istore_n 2, 1) := by decide +kernel
theorem dX5_firstFault_4 : decode cX5_firstFault 4 = .ok (.iload_n 2, 1) := by decide +kernel
theorem dX5_firstFault_5 : decode cX5_firstFault 5 = .ok (.aload_n 0, 1) := by decide +kernel
theorem dX5_firstFault_6 : decode cX5_firstFault 6 = .ok (.getfield 15, 3) := by decide +kernel
theorem dX5_firstFault_9 : decode cX5_firstFault 9 = .ok (.if_icmp .ge 26, 3) := by decide +kernel
theorem dX5_firstFault_12 : decode cX5_firstFault 12 = .ok (.iload_n 1, 1) := by decide +kernel
theorem dX5_firstFault_13 : decode cX5_firstFault 13 = .ok (.aload_n 0, 1) := by decide +kernel
theorem dX5_firstFault_14 : decode cX5_firstFault 14 = .ok (.iload_n 2, 1) := by decide +kernel
theorem dX5_firstFault_15 : decode cX5_firstFault 15 = .ok (.invokevirtual 19, 3) := by decide +kernel
theorem dX5_firstFault_18 : decode cX5_firstFault 18 = .ok (.invokestatic 23, 3) := by decide +kernel
theorem dX5_firstFault_21 : decode cX5_firstFault 21 = .ok (.istore_n 1, 1) := by decide +kernel
theorem dX5_firstFault_22 : decode cX5_firstFault 22 = .ok (.iload_n 1, 1) := by decide +kernel
theorem dX5_firstFault_23 : decode cX5_firstFault 23 = .ok (.iconst (-1), 1) := by decide +kernel
theorem dX5_firstFault_24 : decode cX5_firstFault 24 = .ok (.if_icmp .ne 5, 3) := by decide +kernel
theorem dX5_firstFault_27 : decode cX5_firstFault 27 = .ok (.iload_n 2, 1) := by decide +kernel
theorem dX5_firstFault_28 : decode cX5_firstFault 28 = .ok (.ireturn, 1) := by decide +kernel
theorem dX5_firstFault_29 : decode cX5_firstFault 29 = .ok (.iinc 2 1, 3) := by decide +kernel
theorem dX5_firstFault_32 : decode cX5_firstFault 32 = .ok (.goto (-28), 3) := by decide +kernel
theorem dX5_firstFault_35 : decode cX5_firstFault 35 = .ok (.iload_n 1, 1) := by decide +kernel
theorem dX5_firstFault_36 : decode cX5_firstFault 36 = .ok (.invokestatic 27, 3) := by decide +kernel
theorem dX5_firstFault_39 : decode cX5_firstFault 39 = .ok (.ifCond .eq 8, 3) := by decide +kernel
theorem dX5_firstFault_42 : decode cX5_firstFault 42 = .ok (.bipush (-5), 2) := by decide +kernel
theorem dX5_firstFault_44 : decode cX5_firstFault 44 = .ok (.goto 7, 3) := by decide +kernel
theorem dX5_firstFault_47 : decode cX5_firstFault 47 = .ok (.aload_n 0, 1) := by decide +kernel
theorem dX5_firstFault_48 : decode cX5_firstFault 48 = .ok (.getfield 15, 3) := by decide +kernel
theorem dX5_firstFault_51 : decode cX5_firstFault 51 = .ok (.ireturn, 1) := by decide +kernel
theorem dX5_isComplete_0 : decode cX5_isComplete 0 = .ok (.iload_n 0, 1) := by decide +kernel
theorem dX5_isComplete_1 : decode cX5_isComplete 1 = .ok (.iconst 4, 1) := by decide +kernel
theorem dX5_isComplete_2 : decode cX5_isComplete 2 = .ok (.if_icmp .eq 21, 3) := by decide +kernel
theorem dX5_isComplete_5 : decode cX5_isComplete 5 = .ok (.iload_n 0, 1) := by decide +kernel
theorem dX5_isComplete_6 : decode cX5_isComplete 6 = .ok (.bipush 6, 2) := by decide +kernel
theorem dX5_isComplete_8 : decode cX5_isComplete 8 = .ok (.if_icmp .eq 15, 3) := by decide +kernel
theorem dX5_isComplete_11 : decode cX5_isComplete 11 = .ok (.iload_n 0, 1) := by decide +kernel
theorem dX5_isComplete_12 : decode cX5_isComplete 12 = .ok (.bipush 8, 2) := by decide +kernel
theorem dX5_isComplete_14 : decode cX5_isComplete 14 = .ok (.if_icmp .eq 9, 3) := by decide +kernel
theorem dX5_isComplete_17 : decode cX5_isComplete 17 = .ok (.iload_n 0, 1) := by decide +kernel
theorem dX5_isComplete_18 : decode cX5_isComplete 18 = .ok (.bipush 9, 2) := by decide +kernel
theorem dX5_isComplete_20 : decode cX5_isComplete 20 = .ok (.if_icmp .ne 7, 3) := by decide +kernel
theorem dX5_isComplete_23 : decode cX5_isComplete 23 = .ok (.iconst 1, 1) := by decide +kernel
theorem dX5_isComplete_24 : decode cX5_isComplete 24 = .ok (.goto 4, 3) := by decide +kernel
theorem dX5_isComplete_27 : decode cX5_isComplete 27 = .ok (.iconst 0, 1) := by decide +kernel
theorem dX5_isComplete_28 : decode cX5_isComplete 28 = .ok (.ireturn, 1) := by decide +kernel
set_option maxRecDepth 20000 in
theorem ggX5_after_X5_isComplete : GoodIn wsX5_after wsX5_isComplete := goodIn_r _ [4] (by decide +kernel) (by decide +kernel)
set_option maxRecDepth 20000 in
theorem gX5_after_X5_isComplete : GoodIn wsX5_after (va_wsS RX5 27 yX5_isComplete wsX5_isComplete) := goodIn_app (goodIn_of _ (by decide +kernel)) ggX5_after_X5_isComplete
set_option maxRecDepth 20000 in
theorem ggX5_after_X5_afterFirst : GoodIn wsX5_after wsX5_afterFirst := goodIn_r _ [7, 8, 9, 3, 10] (by decide +kernel) (by decide +kernel)
set_option maxRecDepth 20000 in
theorem gX5_after_X5_afterFirst : GoodIn wsX5_after (va_wsS RX5 31 yX5_afterFirst wsX5_afterFirst) := goodIn_app (goodIn_of _ (by decide +kernel)) ggX5_after_X5_afterFirst
set_option maxRecDepth 20000 in
theorem ggX5_after_X5_isDigit : GoodIn wsX5_after wsX5_isDigit := goodIn_r _ [10] (by decide +kernel) (by decide +kernel)
set_option maxRecDepth 20000 in
theorem gX5_after_X5_isDigit : GoodIn wsX5_after (va_wsS RX5 35 yX5_isDigit wsX5_isDigit) := goodIn_app (goodIn_of _ (by decide +kernel)) ggX5_after_X5_isDigit
theorem dX5_after_0 : decode cX5_after 0 = .ok (.iload_n 1, 1) := by decide +kernel
theorem dX5_after_1 : decode cX5_after 1 = .ok (.bipush 59, 2) := by decide +kernel
theorem dX5_after_3 : decode cX5_after 3 = .ok (.if_icmp .ne 16, 3) := by decide +kernel
theorem dX5_after_6 : decode cX5_after 6 = .ok (.iload_n 0, 1) := by decide +kernel
theorem dX5_after_7 : decode cX5_after 7 = .ok (.invokestatic 27, 3) := by decide +kernel
theorem dX5_after_10 : decode cX5_after 10 = .ok (.ifCond .eq 7, 3) := by decide +kernel
theorem dX5_after_13 : decode cX5_after 13 = .ok (.iconst 0, 1) := by decide +kernel
theorem dX5_after_14 : decode cX5_after 14 = .ok (.goto 4, 3) := by decide +kernel
theorem dX5_after_17 : decode cX5_after 17 = .ok (.iconst (-1), 1) := by decide +kernel
theorem dX5_after_18 : decode cX5_after 18 = .ok (.ireturn, 1) := by decide +kernel
theorem dX5_after_19 : decode cX5_after 19 = .ok (.iload_n 0, 1) := by decide +kernel
theorem dX5_after_20 : decode cX5_after 20 = .ok (.tableswitch 202 0 8 #[52, 57, 83, 95, 113, 126, 149, 168, 188], 52) := by decide +kernel
theorem dX5_after_72 : decode cX5_after 72 = .ok (.iload_n 1, 1) := by decide +kernel
theorem dX5_after_73 : decode cX5_after 73 = .ok (.invokestatic 31, 3) := by decide +kernel
theorem dX5_after_76 : decode cX5_after 76 = .ok (.ireturn, 1) := by decide +kernel
theorem dX5_after_77 : decode cX5_after 77 = .ok (.iload_n 1, 1) := by decide +kernel
theorem dX5_after_78 : decode cX5_after 78 = .ok (.bipush 58, 2) := by decide +kernel
theorem dX5_after_80 : decode cX5_after 80 = .ok (.if_icmp .ne 5, 3) := by decide +kernel
theorem dX5_after_83 : decode cX5_after 83 = .ok (.iconst 3, 1) := by decide +kernel
theorem dX5_after_84 : decode cX5_after 84 = .ok (.ireturn, 1) := by decide +kernel
theorem dX5_after_85 : decode cX5_after 85 = .ok (.iload_n 1, 1) := by decide +kernel
theorem dX5_after_86 : decode cX5_after 86 = .ok (.bipush 48, 2) := by decide +kernel
theorem dX5_after_88 : decode cX5_after 88 = .ok (.if_icmp .eq 9, 3) := by decide +kernel
theorem dX5_after_91 : decode cX5_after 91 = .ok (.iload_n 1, 1) := by decide +kernel
theorem dX5_after_92 : decode cX5_after 92 = .ok (.bipush 49, 2) := by decide +kernel
theorem dX5_after_94 : decode cX5_after 94 = .ok (.if_icmp .ne 7, 3) := by decide +kernel
theorem dX5_after_97 : decode cX5_after 97 = .ok (.iconst 2, 1) := by decide +kernel
theorem dX5_after_98 : decode cX5_after 98 = .ok (.goto 4, 3) := by decide +kernel
theorem dX5_after_101 : decode cX5_after 101 = .ok (.iconst (-1), 1) := by decide +kernel
theorem dX5_after_102 : decode cX5_after 102 = .ok (.ireturn, 1) := by decide +kernel
theorem dX5_after_103 : decode cX5_after 103 = .ok (.iload_n 1, 1) := by decide +kernel
theorem dX5_after_104 : decode cX5_after 104 = .ok (.bipush 58, 2) := by decide +kernel
theorem dX5_after_106 : decode cX5_after 106 = .ok (.if_icmp .ne 7, 3) := by decide +kernel
theorem dX5_after_109 : decode cX5_after 109 = .ok (.iconst 3, 1) := by decide +kernel
theorem dX5_after_110 : decode cX5_after 110 = .ok (.goto 4, 3) := by decide +kernel
theorem dX5_after_113 : decode cX5_after 113 = .ok (.iconst (-1), 1) := by decide +kernel
theorem dX5_after_114 : decode cX5_after 114 = .ok (.ireturn, 1) := by decide +kernel
theorem dX5_after_115 : decode cX5_after 115 = .ok (.iload_n 1, 1) := by decide +kernel
theorem dX5_after_116 : decode cX5_after 116 = .ok (.bipush 49, 2) := by decide +kernel
theorem dX5_after_118 : decode cX5_after 118 = .ok (.if_icmp .lt 13, 3) := by decide +kernel
theorem dX5_after_121 : decode cX5_after 121 = .ok (.iload_n 1, 1) := by decide +kernel
theorem dX5_after_122 : decode cX5_after 122 = .ok (.bipush 56, 2) := by decide +kernel
theorem dX5_after_124 : decode cX5_after 124 = .ok (.if_icmp .gt 7, 3) := by decide +kernel
theorem dX5_after_127 : decode cX5_after 127 = .ok (.iconst 4, 1) := by decide +kernel
theorem dX5_after_128 : decode cX5_after 128 = .ok (.goto 4, 3) := by decide +kernel
theorem dX5_after_131 : decode cX5_after 131 = .ok (.iconst (-1), 1) := by decide +kernel
theorem dX5_after_132 : decode cX5_after 132 = .ok (.ireturn, 1) := by decide +kernel
theorem dX5_after_133 : decode cX5_after 133 = .ok (.iload_n 1, 1) := by decide +kernel
theorem dX5_after_134 : decode cX5_after 134 = .ok (.bipush 33, 2) := by decide +kernel
theorem dX5_after_136 : decode cX5_after 136 = .ok (.if_icmp .ne 8, 3) := by decide +kernel
theorem dX5_after_139 : decode cX5_after 139 = .ok (.bipush 9, 2) := by decide +kernel
theorem dX5_after_141 : decode cX5_after 141 = .ok (.goto 4, 3) := by decide +kernel
theorem dX5_after_144 : decode cX5_after 144 = .ok (.iconst (-1), 1) := by decide +kernel
theorem dX5_after_145 : decode cX5_after 145 = .ok (.ireturn, 1) := by decide +kernel
theorem dX5_after_146 : decode cX5_after 146 = .ok (.iload_n 1, 1) := by decide +kernel
theorem dX5_after_147 : decode cX5_after 147 = .ok (.bipush 49, 2) := by decide +kernel
theorem dX5_after_149 : decode cX5_after 149 = .ok (.if_icmp .ne 6, 3) := by decide +kernel
theorem dX5_after_152 : decode cX5_after 152 = .ok (.bipush 6, 2) := by decide +kernel
theorem dX5_after_154 : decode cX5_after 154 = .ok (.ireturn, 1) := by decide +kernel
theorem dX5_after_155 : decode cX5_after 155 = .ok (.iload_n 1, 1) := by decide +kernel
theorem dX5_after_156 : decode cX5_after 156 = .ok (.invokestatic 35, 3) := by decide +kernel
theorem dX5_after_159 : decode cX5_after 159 = .ok (.ifCond .eq 8, 3) := by decide +kernel
theorem dX5_after_162 : decode cX5_after 162 = .ok (.bipush 9, 2) := by decide +kernel
theorem dX5_after_164 : decode cX5_after 164 = .ok (.goto 4, 3) := by decide +kernel
theorem dX5_after_167 : decode cX5_after 167 = .ok (.iconst (-1), 1) := by decide +kernel
theorem dX5_after_168 : decode cX5_after 168 = .ok (.ireturn, 1) := by decide +kernel
theorem dX5_after_169 : decode cX5_after 169 = .ok (.iload_n 1, 1) := by decide +kernel
theorem dX5_after_170 : decode cX5_after 170 = .ok (.bipush 48, 2) := by decide +kernel
theorem dX5_after_172 : decode cX5_after 172 = .ok (.if_icmp .eq 9, 3) := by decide +kernel
theorem dX5_after_175 : decode cX5_after 175 = .ok (.iload_n 1, 1) := by decide +kernel
theorem dX5_after_176 : decode cX5_after 176 = .ok (.bipush 49, 2) := by decide +kernel
theorem dX5_after_178 : decode cX5_after 178 = .ok (.if_icmp .ne 8, 3) := by decide +kernel
theorem dX5_after_181 : decode cX5_after 181 = .ok (.bipush 9, 2) := by decide +kernel
theorem dX5_after_183 : decode cX5_after 183 = .ok (.goto 4, 3) := by decide +kernel
theorem dX5_after_186 : decode cX5_after 186 = .ok (.iconst (-1), 1) := by decide +kernel
theorem dX5_after_187 : decode cX5_after 187 = .ok (.ireturn, 1) := by decide +kernel
theorem dX5_after_188 : decode cX5_after 188 = .ok (.iload_n 1, 1) := by decide +kernel
theorem dX5_after_189 : decode cX5_after 189 = .ok (.invokestatic 35, 3) := by decide +kernel
theorem dX5_after_192 : decode cX5_after 192 = .ok (.ifCond .eq 14, 3) := by decide +kernel
theorem dX5_after_195 : decode cX5_after 195 = .ok (.iload_n 1, 1) := by decide +kernel
theorem dX5_after_196 : decode cX5_after 196 = .ok (.bipush 48, 2) := by decide +kernel
theorem dX5_after_198 : decode cX5_after 198 = .ok (.if_icmp .eq 8, 3) := by decide +kernel
theorem dX5_after_201 : decode cX5_after 201 = .ok (.bipush 8, 2) := by decide +kernel
theorem dX5_after_203 : decode cX5_after 203 = .ok (.goto 4, 3) := by decide +kernel
theorem dX5_after_206 : decode cX5_after 206 = .ok (.iconst (-1), 1) := by decide +kernel
theorem dX5_after_207 : decode cX5_after 207 = .ok (.ireturn, 1) := by decide +kernel
theorem dX5_after_208 : decode cX5_after 208 = .ok (.iload_n 1, 1) := by decide +kernel
theorem dX5_after_209 : decode cX5_after 209 = .ok (.invokestatic 35, 3) := by decide +kernel
theorem dX5_after_212 : decode cX5_after 212 = .ok (.ifCond .eq 8, 3) := by decide +kernel
theorem dX5_after_215 : decode cX5_after 215 = .ok (.bipush 9, 2) := by decide +kernel
theorem dX5_after_217 : decode cX5_after 217 = .ok (.goto 4, 3) := by decide +kernel
theorem dX5_after_220 : decode cX5_after 220 = .ok (.iconst (-1), 1) := by decide +kernel
theorem dX5_after_221 : decode cX5_after 221 = .ok (.ireturn, 1) := by decide +kernel
theorem dX5_after_222 : decode cX5_after 222 = .ok (.iconst (-1), 1) := by decide +kernel
theorem dX5_after_223 : decode cX5_after 223 = .ok (.ireturn, 1) := by decide +kernel
set_option maxRecDepth 20000 in
theorem ggX5_afterFirst_X5_isDigit : GoodIn wsX5_afterFirst wsX5_isDigit := goodIn_r _ [4] (by decide +kernel) (by decide +kernel)
set_option maxRecDepth 20000 in
theorem gX5_afterFirst_X5_isDigit : GoodIn wsX5_afterFirst (va_wsS RX5 35 yX5_isDigit wsX5_isDigit) := goodIn_app (goodIn_of _ (by decide +kernel)) ggX5_afterFirst_X5_isDigit
theorem dX5_afterFirst_0 : decode cX5_afterFirst 0 = .ok (.iload_n 0, 1) := by decide +kernel
theorem dX5_afterFirst_1 : decode cX5_afterFirst 1 = .ok (.bipush 49, 2) := by decide +kernel
theorem dX5_afterFirst_3 : decode cX5_afterFirst 3 = .ok (.if_icmp .ne 5, 3) := by decide +kernel
theorem dX5_afterFirst_6 : decode cX5_afterFirst 6 = .ok (.iconst 1, 1) := by decide +kernel
theorem dX5_afterFirst_7 : decode cX5_afterFirst 7 = .ok (.ireturn, 1) := by decide +kernel
theorem dX5_afterFirst_8 : decode cX5_afterFirst 8 = .ok (.iload_n 0, 1) := by decide +kernel
theorem dX5_afterFirst_9 : decode cX5_afterFirst 9 = .ok (.invokestatic 35, 3) := by decide +kernel
theorem dX5_afterFirst_12 : decode cX5_afterFirst 12 = .ok (.ifCond .eq 5, 3) := by decide +kernel
theorem dX5_afterFirst_15 : decode cX5_afterFirst 15 = .ok (.iconst 2, 1) := by decide +kernel
theorem dX5_afterFirst_16 : decode cX5_afterFirst 16 = .ok (.ireturn, 1) := by decide +kernel
theorem dX5_afterFirst_17 : decode cX5_afterFirst 17 = .ok (.iload_n 0, 1) := by decide +kernel
theorem dX5_afterFirst_18 : decode cX5_afterFirst 18 = .ok (.bipush 102, 2) := by decide +kernel
theorem dX5_afterFirst_20 : decode cX5_afterFirst 20 = .ok (.if_icmp .eq 9, 3) := by decide +kernel
theorem dX5_afterFirst_23 : decode cX5_afterFirst 23 = .ok (.iload_n 0, 1) := by decide +kernel
theorem dX5_afterFirst_24 : decode cX5_afterFirst 24 = .ok (.bipush 119, 2) := by decide +kernel
theorem dX5_afterFirst_26 : decode cX5_afterFirst 26 = .ok (.if_icmp .ne 5, 3) := by decide +kernel
theorem dX5_afterFirst_29 : decode cX5_afterFirst 29 = .ok (.iconst 5, 1) := by decide +kernel
theorem dX5_afterFirst_30 : decode cX5_afterFirst 30 = .ok (.ireturn, 1) := by decide +kernel
theorem dX5_afterFirst_31 : decode cX5_afterFirst 31 = .ok (.iload_n 0, 1) := by decide +kernel
theorem dX5_afterFirst_32 : decode cX5_afterFirst 32 = .ok (.bipush 43, 2) := by decide +kernel
theorem dX5_afterFirst_34 : decode cX5_afterFirst 34 = .ok (.if_icmp .ne 6, 3) := by decide +kernel
theorem dX5_afterFirst_37 : decode cX5_afterFirst 37 = .ok (.bipush 7, 2) := by decide +kernel
theorem dX5_afterFirst_39 : decode cX5_afterFirst 39 = .ok (.ireturn, 1) := by decide +kernel
theorem dX5_afterFirst_40 : decode cX5_afterFirst 40 = .ok (.iload_n 0, 1) := by decide +kernel
theorem dX5_afterFirst_41 : decode cX5_afterFirst 41 = .ok (.bipush 42, 2) := by decide +kernel
theorem dX5_afterFirst_43 : decode cX5_afterFirst 43 = .ok (.if_icmp .ne 8, 3) := by decide +kernel
theorem dX5_afterFirst_46 : decode cX5_afterFirst 46 = .ok (.bipush 9, 2) := by decide +kernel
theorem dX5_afterFirst_48 : decode cX5_afterFirst 48 = .ok (.goto 4, 3) := by decide +kernel
theorem dX5_afterFirst_51 : decode cX5_afterFirst 51 = .ok (.iconst (-1), 1) := by decide +kernel
theorem dX5_afterFirst_52 : decode cX5_afterFirst 52 = .ok (.ireturn, 1) := by decide +kernel
theorem dX5_isDigit_0 : decode cX5_isDigit 0 = .ok (.iload_n 0, 1) := by decide +kernel
theorem dX5_isDigit_1 : decode cX5_isDigit 1 = .ok (.bipush 48, 2) := by decide +kernel
theorem dX5_isDigit_3 : decode cX5_isDigit 3 = .ok (.if_icmp .lt 13, 3) := by decide +kernel
theorem dX5_isDigit_6 : decode cX5_isDigit 6 = .ok (.iload_n 0, 1) := by decide +kernel
theorem dX5_isDigit_7 : decode cX5_isDigit 7 = .ok (.bipush 57, 2) := by decide +kernel
theorem dX5_isDigit_9 : decode cX5_isDigit 9 = .ok (.if_icmp .gt 7, 3) := by decide +kernel
theorem dX5_isDigit_12 : decode cX5_isDigit 12 = .ok (.iconst 1, 1) := by decide +kernel
theorem dX5_isDigit_13 : decode cX5_isDigit 13 = .ok (.goto 4, 3) := by decide +kernel
theorem dX5_isDigit_16 : decode cX5_isDigit 16 = .ok (.iconst 0, 1) := by decide +kernel
theorem dX5_isDigit_17 : decode cX5_isDigit 17 = .ok (.ireturn, 1) := by decide +kernel
theorem dX5_orders_0 : decode cX5_orders 0 = .ok (.iconst 1, 1) := by decide +kernel
theorem dX5_orders_1 : decode cX5_orders 1 = .ok (.istore_n 1, 1) := by decide +kernel
theorem dX5_orders_2 : decode cX5_orders 2 = .ok (.iconst 0, 1) := by decide +kernel
theorem dX5_orders_3 : decode cX5_orders 3 = .ok (.istore_n 2, 1) := by decide +kernel
theorem dX5_orders_4 : decode cX5_orders 4 = .ok (.iload_n 2, 1) := by decide +kernel
theorem dX5_orders_5 : decode cX5_orders 5 = .ok (.aload_n 0, 1) := by decide +kernel
theorem dX5_orders_6 : decode cX5_orders 6 = .ok (.getfield 15, 3) := by decide +kernel
theorem dX5_orders_9 : decode cX5_orders 9 = .ok (.if_icmp .ge 23, 3) := by decide +kernel
theorem dX5_orders_12 : decode cX5_orders 12 = .ok (.aload_n 0, 1) := by decide +kernel
theorem dX5_orders_13 : decode cX5_orders 13 = .ok (.getfield 11, 3) := by decide +kernel
theorem dX5_orders_16 : decode cX5_orders 16 = .ok (.iload_n 2, 1) := by decide +kernel
theorem dX5_orders_17 : decode cX5_orders 17 = .ok (.caload, 1) := by decide +kernel
theorem dX5_orders_18 : decode cX5_orders 18 = .ok (.bipush 59, 2) := by decide +kernel
theorem dX5_orders_20 : decode cX5_orders 20 = .ok (.if_icmp .ne 6, 3) := by decide +kernel
theorem dX5_orders_23 : decode cX5_orders 23 = .ok (.iinc 1 1, 3) := by decide +kernel
theorem dX5_orders_26 : decode cX5_orders 26 = .ok (.iinc 2 1, 3) := by decide +kernel
theorem dX5_orders_29 : decode cX5_orders 29 = .ok (.goto (-25), 3) := by decide +kernel
theorem dX5_orders_32 : decode cX5_orders 32 = .ok (.iload_n 1, 1) := by decide +kernel
theorem dX5_orders_33 : decode cX5_orders 33 = .ok (.ireturn, 1) := by decide +kernel
theorem dX5_goToStart_0 : decode cX5_goToStart 0 = .ok (.aload_n 0, 1) := by decide +kernel
theorem dX5_goToStart_1 : decode cX5_goToStart 1 = .ok (.iconst 0, 1) := by decide +kernel
theorem dX5_goToStart_2 : decode cX5_goToStart 2 = .ok (.putfield 39, 3) := by decide +kernel
theorem dX5_goToStart_5 : decode cX5_goToStart 5 = .ok (.return_, 1) := by decide +kernel
set_option maxRecDepth 20000 in
theorem ggX5_readOrder_X5_characterAt : GoodIn wsX5_readOrder wsX5_characterAt := goodIn_r _ [8, 9, 10, 27, 28, 29, 30, 31, 32, 33] (by decide +kernel) (by decide +kernel)
set_option maxRecDepth 20000 in
theorem gX5_readOrder_X5_characterAt : GoodIn wsX5_readOrder (wsV RX5 19 RX5 yX5_characterAt wsX5_characterAt) := goodIn_app (goodIn_of _ (by decide +kernel)) ggX5_readOrder_X5_characterAt
set_option maxRecDepth 20000 in
theorem ggX5_readOrder_X5_kindOf : GoodIn wsX5_readOrder wsX5_kindOf := goodIn_r _ [13] (by decide +kernel) (by decide +kernel)
set_option maxRecDepth 20000 in
theorem gX5_readOrder_X5_kindOf : GoodIn wsX5_readOrder (va_wsS RX5 42 yX5_kindOf wsX5_kindOf) := goodIn_app (goodIn_of _ (by decide +kernel)) ggX5_readOrder_X5_kindOf
set_option maxRecDepth 20000 in
theorem ggX5_readOrder_X5_readNumber : GoodIn wsX5_readOrder wsX5_readNumber := goodIn_r _ [17, 1, 4, 5, 6, 7, 8, 9, 10, 18, 19, 20, 27, 28, 29, 30, 31, 32, 33] (by decide +kernel) (by decide +kernel)
set_option maxRecDepth 20000 in
theorem gX5_readOrder_X5_readNumber : GoodIn wsX5_readOrder (wsV RX5 48 RX5 yX5_readNumber wsX5_readNumber) := goodIn_app (goodIn_of _ (by decide +kernel)) ggX5_readOrder_X5_readNumber
set_option maxRecDepth 20000 in
theorem ggX5_readOrder_X5_readRecords : GoodIn wsX5_readOrder wsX5_readRecords := goodIn_r _ [24, 1, 25, 26, 4, 5, 6, 7, 8, 9, 10, 27, 28, 29, 30, 31, 32, 33] (by decide +kernel) (by decide +kernel)
set_option maxRecDepth 20000 in
theorem gX5_readOrder_X5_readRecords : GoodIn wsX5_readOrder (wsV RX5 55 RX5 yX5_readRecords wsX5_readRecords) := goodIn_app (goodIn_of _ (by decide +kernel)) ggX5_readOrder_X5_readRecords
theorem dX5_readOrder_0 : decode cX5_readOrder 0 = .ok (.aload_n 0, 1) := by decide +kernel
theorem dX5_readOrder_1 : decode cX5_readOrder 1 = .ok (.aload_n 0, 1) := by decide +kernel
theorem dX5_readOrder_2 : decode cX5_readOrder 2 = .ok (.aload_n 0, 1) := by decide +kernel
theorem dX5_readOrder_3 : decode cX5_readOrder 3 = .ok (.getfield 39, 3) := by decide +kernel
theorem dX5_readOrder_6 : decode cX5_readOrder 6 = .ok (.invokevirtual 19, 3) := by decide +kernel
theorem dX5_readOrder_9 : decode cX5_readOrder 9 = .ok (.invokestatic 42, 3) := by decide +kernel
theorem dX5_readOrder_12 : decode cX5_readOrder 12 = .ok (.putfield 45, 3) := by decide +kernel
theorem dX5_readOrder_15 : decode cX5_readOrder 15 = .ok (.aload_n 0, 1) := by decide +kernel
theorem dX5_readOrder_16 : decode cX5_readOrder 16 = .ok (.getfield 45, 3) := by decide +kernel
theorem dX5_readOrder_19 : decode cX5_readOrder 19 = .ok (.ifCond .eq 13, 3) := by decide +kernel
theorem dX5_readOrder_22 : decode cX5_readOrder 22 = .ok (.aload_n 0, 1) := by decide +kernel
theorem dX5_readOrder_23 : decode cX5_readOrder 23 = .ok (.dup, 1) := by decide +kernel
theorem dX5_readOrder_24 : decode cX5_readOrder 24 = .ok (.getfield 39, 3) := by decide +kernel
theorem dX5_readOrder_27 : decode cX5_readOrder 27 = .ok (.iconst 1, 1) := by decide +kernel
theorem dX5_readOrder_28 : decode cX5_readOrder 28 = .ok (.iadd, 1) := by decide +kernel
theorem dX5_readOrder_29 : decode cX5_readOrder 29 = .ok (.putfield 39, 3) := by decide +kernel
theorem dX5_readOrder_32 : decode cX5_readOrder 32 = .ok (.aload_n 0, 1) := by decide +kernel
theorem dX5_readOrder_33 : decode cX5_readOrder 33 = .ok (.aload_n 0, 1) := by decide +kernel
theorem dX5_readOrder_34 : decode cX5_readOrder 34 = .ok (.invokevirtual 48, 3) := by decide +kernel
theorem dX5_readOrder_37 : decode cX5_readOrder 37 = .ok (.putfield 52, 3) := by decide +kernel
theorem dX5_readOrder_40 : decode cX5_readOrder 40 = .ok (.aload_n 0, 1) := by decide +kernel
theorem dX5_readOrder_41 : decode cX5_readOrder 41 = .ok (.getfield 45, 3) := by decide +kernel
theorem dX5_readOrder_44 : decode cX5_readOrder 44 = .ok (.ifCond .ne 7, 3) := by decide +kernel
theorem dX5_readOrder_47 : decode cX5_readOrder 47 = .ok (.aload_n 0, 1) := by decide +kernel
theorem dX5_readOrder_48 : decode cX5_readOrder 48 = .ok (.invokevirtual 55, 3) := by decide +kernel
theorem dX5_readOrder_51 : decode cX5_readOrder 51 = .ok (.aload_n 0, 1) := by decide +kernel
theorem dX5_readOrder_52 : decode cX5_readOrder 52 = .ok (.dup, 1) := by decide +kernel
theorem dX5_readOrder_53 : decode cX5_readOrder 53 = .ok (.getfield 39, 3) := by decide +kernel
theorem dX5_readOrder_56 : decode cX5_readOrder 56 = .ok (.iconst 1, 1) := by decide +kernel
theorem dX5_readOrder_57 : decode cX5_readOrder 57 = .ok (.iadd, 1) := by decide +kernel
theorem dX5_readOrder_58 : decode cX5_readOrder 58 = .ok (.putfield 39, 3) := by decide +kernel
theorem dX5_readOrder_61 : decode cX5_readOrder 61 = .ok (.return_, 1) := by decide +kernel
theorem dX5_kindOf_0 : decode cX5_kindOf 0 = .ok (.iload_n 0, 1) := by decide +kernel
theorem dX5_kindOf_1 : decode cX5_kindOf 1 = .ok (.lookupswitch 51 #[(42, 49), (43, 47), (102, 43), (119, 45)], 43) := by decide +kernel
theorem dX5_kindOf_44 : decode cX5_kindOf 44 = .ok (.iconst 1, 1) := by decide +kernel
theorem dX5_kindOf_45 : decode cX5_kindOf 45 = .ok (.ireturn, 1) := by decide +kernel
theorem dX5_kindOf_46 : decode cX5_kindOf 46 = .ok (.iconst 2, 1) := by decide +kernel
theorem dX5_kindOf_47 : decode cX5_kindOf 47 = .ok (.ireturn, 1) := by decide +kernel
theorem dX5_kindOf_48 : decode cX5_kindOf 48 = .ok (.iconst 3, 1) := by decide +kernel
theorem dX5_kindOf_49 : decode cX5_kindOf 49 = .ok (.ireturn, 1) := by decide +kernel
theorem dX5_kindOf_50 : decode cX5_kindOf 50 = .ok (.iconst 4, 1) := by decide +kernel
theorem dX5_kindOf_51 : decode cX5_kindOf 51 = .ok (.ireturn, 1) := by decide +kernel
theorem dX5_kindOf_52 : decode cX5_kindOf 52 = .ok (.iconst 0, 1) := by decide +kernel
theorem dX5_kindOf_53 : decode cX5_kindOf 53 = .ok (.ireturn, 1) := by decide +kernel
set_option maxRecDepth 20000 in
theorem ggX5_readNumber_X5_characterAt : GoodIn wsX5_readNumber wsX5_characterAt := goodIn_r _ [6, 7, 8, 12, 13, 14, 15, 16, 17, 18] (by decide +kernel) (by decide +kernel)
set_option maxRecDepth 20000 in
theorem gX5_readNumber_X5_characterAt : GoodIn wsX5_readNumber (wsV RX5 19 RX5 yX5_characterAt wsX5_characterAt) := goodIn_app (goodIn_of _ (by decide +kernel)) ggX5_readNumber_X5_characterAt
set_option maxRecDepth 20000 in
theorem ggX5_readNumber_X5_isDigit : GoodIn wsX5_readNumber wsX5_isDigit := goodIn_r _ [11] (by decide +kernel) (by decide +kernel)
set_option maxRecDepth 20000 in
theorem gX5_readNumber_X5_isDigit : GoodIn wsX5_readNumber (va_wsS RX5 35 yX5_isDigit wsX5_isDigit) := goodIn_app (goodIn_of _ (by decide +kernel)) ggX5_readNumber_X5_isDigit
theorem dX5_readNumber_0 : decode cX5_readNumber 0 = .ok (.iconst 0, 1) := by decide +kernel
theorem dX5_readNumber_1 : decode cX5_readNumber 1 = .ok (.istore_n 1, 1) := by decide +kernel
theorem dX5_readNumber_2 : decode cX5_readNumber 2 = .ok (.iconst 0, 1) := by decide +kernel
theorem dX5_readNumber_3 : decode cX5_readNumber 3 = .ok (.istore_n 2, 1) := by decide +kernel
theorem dX5_readNumber_4 : decode cX5_readNumber 4 = .ok (.iload_n 2, 1) := by decide +kernel
theorem dX5_readNumber_5 : decode cX5_readNumber 5 = .ok (.iconst 2, 1) := by decide +kernel
theorem dX5_readNumber_6 : decode cX5_readNumber 6 = .ok (.if_icmp .ge 50, 3) := by decide +kernel
theorem dX5_readNumber_9 : decode cX5_readNumber 9 = .ok (.aload_n 0, 1) := by decide +kernel
theorem dX5_readNumber_10 : decode cX5_readNumber 10 = .ok (.aload_n 0, 1) := by decide +kernel
theorem dX5_readNumber_11 : decode cX5_readNumber 11 = .ok (.getfield 39, 3) := by decide +kernel
theorem dX5_readNumber_14 : decode cX5_readNumber 14 = .ok (.invokevirtual 19, 3) := by decide +kernel
theorem dX5_readNumber_17 : decode cX5_readNumber 17 = .ok (.invokestatic 35, 3) := by decide +kernel
theorem dX5_readNumber_20 : decode cX5_readNumber 20 = .ok (.ifCond .eq 36, 3) := by decide +kernel
theorem dX5_readNumber_23 : decode cX5_readNumber 23 = .ok (.bipush 10, 2) := by decide +kernel
theorem dX5_readNumber_25 : decode cX5_readNumber 25 = .ok (.iload_n 1, 1) := by decide +kernel
theorem dX5_readNumber_26 : decode cX5_readNumber 26 = .ok (.imul, 1) := by decide +kernel
theorem dX5_readNumber_27 : decode cX5_readNumber 27 = .ok (.aload_n 0, 1) := by decide +kernel
theorem dX5_readNumber_28 : decode cX5_readNumber 28 = .ok (.aload_n 0, 1) := by decide +kernel
theorem dX5_readNumber_29 : decode cX5_readNumber 29 = .ok (.getfield 39, 3) := by decide +kernel
theorem dX5_readNumber_32 : decode cX5_readNumber 32 = .ok (.invokevirtual 19, 3) := by decide +kernel
theorem dX5_readNumber_35 : decode cX5_readNumber 35 = .ok (.bipush 48, 2) := by decide +kernel
theorem dX5_readNumber_37 : decode cX5_readNumber 37 = .ok (.isub, 1) := by decide +kernel
theorem dX5_readNumber_38 : decode cX5_readNumber 38 = .ok (.iadd, 1) := by decide +kernel
theorem dX5_readNumber_39 : decode cX5_readNumber 39 = .ok (.istore_n 1, 1) := by decide +kernel
theorem dX5_readNumber_40 : decode cX5_readNumber 40 = .ok (.aload_n 0, 1) := by decide +kernel
theorem dX5_readNumber_41 : decode cX5_readNumber 41 = .ok (.dup, 1) := by decide +kernel
theorem dX5_readNumber_42 : decode cX5_readNumber 42 = .ok (.getfield 39, 3) := by decide +kernel
theorem dX5_readNumber_45 : decode cX5_readNumber 45 = .ok (.iconst 1, 1) := by decide +kernel
theorem dX5_readNumber_46 : decode cX5_readNumber 46 = .ok (.iadd, 1) := by decide +kernel
theorem dX5_readNumber_47 : decode cX5_readNumber 47 = .ok (.putfield 39, 3) := by decide +kernel
theorem dX5_readNumber_50 : decode cX5_readNumber 50 = .ok (.iinc 2 1, 3) := by decide +kernel
theorem dX5_readNumber_53 : decode cX5_readNumber 53 = .ok (.goto (-49), 3) := by decide +kernel
theorem dX5_readNumber_56 : decode cX5_readNumber 56 = .ok (.iload_n 1, 1) := by decide +kernel
theorem dX5_readNumber_57 : decode cX5_readNumber 57 = .ok (.ireturn, 1) := by decide +kernel
set_option maxRecDepth 20000 in
theorem ggX5_readRecords_X5_characterAt : GoodIn wsX5_readRecords wsX5_characterAt := goodIn_r _ [8, 9, 10, 11, 12, 13, 14, 15, 16, 17] (by decide +kernel) (by decide +kernel)
set_option maxRecDepth 20000 in
theorem gX5_readRecords_X5_characterAt : GoodIn wsX5_readRecords (wsV RX5 19 RX5 yX5_characterAt wsX5_characterAt) := goodIn_app (goodIn_of _ (by decide +kernel)) ggX5_readRecords_X5_characterAt
theorem dX5_readRecords_0 : decode cX5_readRecords 0 = .ok (.aload_n 0, 1) := by decide +kernel
theorem dX5_readRecords_1 : decode cX5_readRecords 1 = .ok (.dup, 1) := by decide +kernel
theorem dX5_readRecords_2 : decode cX5_readRecords 2 = .ok (.getfield 39, 3) := by decide +kernel
theorem dX5_readRecords_5 : decode cX5_readRecords 5 = .ok (.iconst 1, 1) := by decide +kernel
theorem dX5_readRecords_6 : decode cX5_readRecords 6 = .ok (.iadd, 1) := by decide +kernel
theorem dX5_readRecords_7 : decode cX5_readRecords 7 = .ok (.putfield 39, 3) := by decide +kernel
theorem dX5_readRecords_10 : decode cX5_readRecords 10 = .ok (.aload_n 0, 1) := by decide +kernel
theorem dX5_readRecords_11 : decode cX5_readRecords 11 = .ok (.aload_n 0, 1) := by decide +kernel
theorem dX5_readRecords_12 : decode cX5_readRecords 12 = .ok (.aload_n 0, 1) := by decide +kernel
theorem dX5_readRecords_13 : decode cX5_readRecords 13 = .ok (.getfield 39, 3) := by decide +kernel
theorem dX5_readRecords_16 : decode cX5_readRecords 16 = .ok (.invokevirtual 19, 3) := by decide +kernel
theorem dX5_readRecords_19 : decode cX5_readRecords 19 = .ok (.bipush 48, 2) := by decide +kernel
theorem dX5_readRecords_21 : decode cX5_readRecords 21 = .ok (.isub, 1) := by decide +kernel
theorem dX5_readRecords_22 : decode cX5_readRecords 22 = .ok (.putfield 58, 3) := by decide +kernel
theorem dX5_readRecords_25 : decode cX5_readRecords 25 = .ok (.aload_n 0, 1) := by decide +kernel
theorem dX5_readRecords_26 : decode cX5_readRecords 26 = .ok (.dup, 1) := by decide +kernel
theorem dX5_readRecords_27 : decode cX5_readRecords 27 = .ok (.getfield 39, 3) := by decide +kernel
theorem dX5_readRecords_30 : decode cX5_readRecords 30 = .ok (.iconst 1, 1) := by decide +kernel
theorem dX5_readRecords_31 : decode cX5_readRecords 31 = .ok (.iadd, 1) := by decide +kernel
theorem dX5_readRecords_32 : decode cX5_readRecords 32 = .ok (.putfield 39, 3) := by decide +kernel
theorem dX5_readRecords_35 : decode cX5_readRecords 35 = .ok (.aload_n 0, 1) := by decide +kernel
theorem dX5_readRecords_36 : decode cX5_readRecords 36 = .ok (.aload_n 0, 1) := by decide +kernel
theorem dX5_readRecords_37 : decode cX5_readRecords 37 = .ok (.aload_n 0, 1) := by decide +kernel
theorem dX5_readRecords_38 : decode cX5_readRecords 38 = .ok (.getfield 39, 3) := by decide +kernel
theorem dX5_readRecords_41 : decode cX5_readRecords 41 = .ok (.invokevirtual 19, 3) := by decide +kernel
theorem dX5_readRecords_44 : decode cX5_readRecords 44 = .ok (.bipush 33, 2) := by decide +kernel
theorem dX5_readRecords_46 : decode cX5_readRecords 46 = .ok (.if_icmp .ne 7, 3) := by decide +kernel
theorem dX5_readRecords_49 : decode cX5_readRecords 49 = .ok (.iconst 1, 1) := by decide +kernel
theorem dX5_readRecords_50 : decode cX5_readRecords 50 = .ok (.goto 4, 3) := by decide +kernel
theorem dX5_readRecords_53 : decode cX5_readRecords 53 = .ok (.iconst 0, 1) := by decide +kernel
theorem dX5_readRecords_54 : decode cX5_readRecords 54 = .ok (.putfield 61, 3) := by decide +kernel
theorem dX5_readRecords_57 : decode cX5_readRecords 57 = .ok (.aload_n 0, 1) := by decide +kernel
theorem dX5_readRecords_58 : decode cX5_readRecords 58 = .ok (.getfield 61, 3) := by decide +kernel
theorem dX5_readRecords_61 : decode cX5_readRecords 61 = .ok (.ifCond .eq 13, 3) := by decide +kernel
theorem dX5_readRecords_64 : decode cX5_readRecords 64 = .ok (.aload_n 0, 1) := by decide +kernel
theorem dX5_readRecords_65 : decode cX5_readRecords 65 = .ok (.dup, 1) := by decide +kernel
theorem dX5_readRecords_66 : decode cX5_readRecords 66 = .ok (.getfield 39, 3) := by decide +kernel
theorem dX5_readRecords_69 : decode cX5_readRecords 69 = .ok (.iconst 1, 1) := by decide +kernel
theorem dX5_readRecords_70 : decode cX5_readRecords 70 = .ok (.iadd, 1) := by decide +kernel
theorem dX5_readRecords_71 : decode cX5_readRecords 71 = .ok (.putfield 39, 3) := by decide +kernel
theorem dX5_readRecords_74 : decode cX5_readRecords 74 = .ok (.return_, 1) := by decide +kernel
theorem dX5_kind_0 : decode cX5_kind 0 = .ok (.aload_n 0, 1) := by decide +kernel
theorem dX5_kind_1 : decode cX5_kind 1 = .ok (.getfield 45, 3) := by decide +kernel
theorem dX5_kind_4 : decode cX5_kind 4 = .ok (.ireturn, 1) := by decide +kernel
theorem dX5_number_0 : decode cX5_number 0 = .ok (.aload_n 0, 1) := by decide +kernel
theorem dX5_number_1 : decode cX5_number 1 = .ok (.getfield 52, 3) := by decide +kernel
theorem dX5_number_4 : decode cX5_number 4 = .ok (.ireturn, 1) := by decide +kernel
theorem dX5_records_0 : decode cX5_records 0 = .ok (.aload_n 0, 1) := by decide +kernel
theorem dX5_records_1 : decode cX5_records 1 = .ok (.getfield 58, 3) := by decide +kernel
theorem dX5_records_4 : decode cX5_records 4 = .ok (.ireturn, 1) := by decide +kernel
theorem dX5_isUrgent_0 : decode cX5_isUrgent 0 = .ok (.aload_n 0, 1) := by decide +kernel
theorem dX5_isUrgent_1 : decode cX5_isUrgent 1 = .ok (.getfield 61, 3) := by decide +kernel
theorem dX5_isUrgent_4 : decode cX5_isUrgent 4 = .ok (.ireturn, 1) := by decide +kernel
set_option maxRecDepth 20000 in
theorem ggX7_init_X3_init : GoodIn wsX7_init wsX3_init := goodIn_r _ [19, 20, 2, 3, 21, 22, 23, 24, 25, 26, 27, 28, 29, 30, 31, 32, 33, 34, 35, 36, 37, 38, 39, 40, 41, 42, 43, 44, 45, 46, 47, 48, 49, 50, 51, 52, 53, 54, 55, 56, 57, 58, 59, 60, 61, 62, 63, 64, 65, 66, 67, 68, 69, 70, 71, 72, 73, 74, 75, 115, 116, 117, 118, 119, 120, 121, 122, 123, 88, 89, 90, 91, 92, 93, 94, 95, 96, 97, 98, 99, 124, 125, 126, 127, 128, 129, 130, 131, 132] (by decide +kernel) (by decide +kernel)
set_option maxRecDepth 20000 in
theorem gX7_init_X3_init : GoodIn wsX7_init (wsX3_init) := ggX7_init_X3_init
set_option maxRecDepth 20000 in
theorem ggX7_init_X2_init : GoodIn wsX7_init wsX2_init := goodIn_r _ [78, 79, 2, 3, 80, 81, 5, 6, 82, 18, 19, 20, 21, 22, 23, 24, 25, 26, 27, 28, 29, 30, 31, 32, 33, 34, 35, 36, 37, 38, 39, 40, 41, 42, 43, 44, 45, 46, 47, 48, 49, 50, 51, 52, 53, 54, 55, 56, 57, 58, 59, 60, 61, 62, 63, 64, 65, 66, 67, 68, 69, 70, 71, 72, 73, 74, 75, 105, 106, 107, 88, 89, 90, 91, 92, 93, 94, 95, 96, 97, 98, 99, 115, 116, 117, 118, 119, 120, 121, 122, 123, 124, 125, 126, 127, 128, 129, 130, 131, 132] (by decide +kernel) (by decide +kernel)
set_option maxRecDepth 20000 in
theorem gX7_init_X2_init : GoodIn wsX7_init (wsX2_init) := ggX7_init_X2_init
set_option maxRecDepth 20000 in
theorem ggX7_init_X5_init : GoodIn wsX7_init wsX5_init := goodIn_r _ [84, 85, 2, 3, 86, 87, 108, 109, 110, 111, 112, 113, 114] (by decide +kernel) (by decide +kernel)
set_option maxRecDepth 20000 in
theorem gX7_init_X5_init_n28 : GoodIn wsX7_init (wsX5_init) := ggX7_init_X5_init
theorem dX7_init_0 : decode cX7_init 0 = .ok (.aload_n 0, 1) := by decide +kernel
theorem dX7_init_1 : decode cX7_init 1 = .ok (.invokespecial 1, 3) := by decide +kernel
theorem dX7_init_4 : decode cX7_init 4 = .ok (.aload_n 0, 1) := by decide +kernel
theorem dX7_init_5 : decode cX7_init 5 = .ok (.new 7, 3) := by decide +kernel
theorem dX7_init_8 : decode cX7_init 8 = .ok (.dup, 1) := by decide +kernel
theorem dX7_init_9 : decode cX7_init 9 = .ok (.invokespecial 9, 3) := by decide +kernel
theorem dX7_init_12 : decode cX7_init 12 = .ok (.putfield 10, 3) := by decide +kernel
theorem dX7_init_15 : decode cX7_init 15 = .ok (.aload_n 0, 1) := by decide +kernel
theorem dX7_init_16 : decode cX7_init 16 = .ok (.new 7, 3) := by decide +kernel
theorem dX7_init_19 : decode cX7_init 19 = .ok (.dup, 1) := by decide +kernel
theorem dX7_init_20 : decode cX7_init 20 = .ok (.invokespecial 9, 3) := by decide +kernel
theorem dX7_init_23 : decode cX7_init 23 = .ok (.putfield 16, 3) := by decide +kernel
theorem dX7_init_26 : decode cX7_init 26 = .ok (.aload_n 0, 1) := by decide +kernel
theorem dX7_init_27 : decode cX7_init 27 = .ok (.new 19, 3) := by decide +kernel
theorem dX7_init_30 : decode cX7_init 30 = .ok (.dup, 1) := by decide +kernel
theorem dX7_init_31 : decode cX7_init 31 = .ok (.invokespecial 21, 3) := by decide +kernel
theorem dX7_init_34 : decode cX7_init 34 = .ok (.putfield 22, 3) := by decide +kernel
theorem dX7_init_37 : decode cX7_init 37 = .ok (.aload_n 0, 1) := by decide +kernel
theorem dX7_init_38 : decode cX7_init 38 = .ok (.new 26, 3) := by decide +kernel
theorem dX7_init_41 : decode cX7_init 41 = .ok (.dup, 1) := by decide +kernel
theorem dX7_init_42 : decode cX7_init 42 = .ok (.invokespecial 28, 3) := by decide +kernel
theorem dX7_init_45 : decode cX7_init 45 = .ok (.putfield 29, 3) := by decide +kernel
theorem dX7_init_48 : decode cX7_init 48 = .ok (.return_, 1) := by decide +kernel
set_option maxRecDepth 20000 in
theorem ggX7_submit_X3_refusalToEnter : GoodIn wsX7_submit wsX3_refusalToEnter := goodIn_r _ [7, 8, 9, 10, 6, 11, 12, 13, 14, 15, 16, 17, 18, 19, 20, 21, 22, 23, 24, 25, 189, 190, 191, 192, 193, 194, 195, 196, 197, 198, 199, 200, 201, 202, 203, 204, 205, 206, 207, 208, 209] (by decide +kernel) (by decide +kernel)
set_option maxRecDepth 20000 in
theorem gX7_submit_X3_refusalToEnter : GoodIn wsX7_submit (wsV RX7 33 RX3 yX3_refusalToEnter wsX3_refusalToEnter) := goodIn_app (goodIn_of _ (by decide +kernel)) ggX7_submit_X3_refusalToEnter
set_option maxRecDepth 20000 in
theorem ggX7_submit_X2_push : GoodIn wsX7_submit wsX2_push := goodIn_r _ [30, 31, 32, 33, 34, 35, 36, 6, 37, 8, 38, 39, 40, 41, 42, 43, 44, 45, 19, 46, 47, 48, 49, 50, 51, 52, 53, 54, 23, 55, 56, 57, 58, 59, 60, 61, 62, 63, 64, 25, 65, 66, 67, 68, 69, 70, 71, 72, 73, 74, 75, 76, 77, 78, 79, 80, 81, 82, 83, 84, 85, 86, 87, 88, 89, 90, 91, 210, 211, 212, 189, 190, 191, 192, 193, 194, 195, 196, 197, 198, 199, 200, 201, 202, 203, 204, 205, 206, 207, 208, 209, 213, 214, 215, 216, 217, 218, 219, 220, 221] (by decide +kernel) (by decide +kernel)
set_option maxRecDepth 20000 in
theorem gX7_submit_X2_push : GoodIn wsX7_submit (wsV RX7 37 RX2 yX2_push wsX2_push) := goodIn_app (goodIn_of _ (by decide +kernel)) ggX7_submit_X2_push
set_option maxRecDepth 20000 in
theorem ggX7_submit_X3_enter : GoodIn wsX7_submit wsX3_enter := goodIn_r _ [95, 48, 8, 46, 38, 41, 49, 96, 97, 98, 6, 99, 47, 100, 101, 102, 68, 103, 75, 70, 72, 73, 74, 104, 105, 106, 23, 107, 25, 56, 58, 59, 60, 61, 62, 63, 64, 108, 21, 22, 24, 109, 110, 111, 112, 113, 114, 115, 116, 117, 118, 119, 120, 19, 9, 10, 11, 121, 122, 123, 124, 125, 126, 127, 128, 40, 129, 130, 131, 88, 132, 90, 133, 134, 135, 136, 39, 137, 138, 139, 140, 141, 142, 143, 144, 145, 146, 147, 79, 148, 84, 81, 149, 150, 151, 152, 153, 154, 155, 156, 157, 158, 159, 160, 161, 162, 163, 164, 165, 166, 167, 50, 51, 168, 169, 170, 171, 83, 172, 173, 174, 175, 176, 177, 178, 179, 180, 181, 182, 183, 189, 190, 191, 192, 193, 194, 195, 196, 197, 198, 199, 200, 213, 214, 215, 216, 217, 201, 202, 203, 204, 205, 206, 207, 208, 209, 221, 218, 219, 220] (by decide +kernel) (by decide +kernel)
set_option maxRecDepth 20000 in
theorem gX7_submit_X3_enter : GoodIn wsX7_submit (wsV RX7 41 RX3 yX3_enter wsX3_enter) := goodIn_app (goodIn_of _ (by decide +kernel)) ggX7_submit_X3_enter
theorem dX7_submit_0 : decode cX7_submit 0 = .ok (.aload_n 0, 1) := by decide +kernel
theorem dX7_submit_1 : decode cX7_submit 1 = .ok (.getfield 10, 3) := by decide +kernel
theorem dX7_submit_4 : decode cX7_submit 4 = .ok (.iload_n 1, 1) := by decide +kernel
theorem dX7_submit_5 : decode cX7_submit 5 = .ok (.iload_n 2, 1) := by decide +kernel
theorem dX7_submit_6 : decode cX7_submit 6 = .ok (.invokevirtual 33, 3) := by decide +kernel
theorem dX7_submit_9 : decode cX7_submit 9 = .ok (.istore 4, 2) := by decide +kernel
theorem dX7_submit_11 : decode cX7_submit 11 = .ok (.iload 4, 2) := by decide +kernel
theorem dX7_submit_13 : decode cX7_submit 13 = .ok (.ifCond .eq 6, 3) := by decide +kernel
theorem dX7_submit_16 : decode cX7_submit 16 = .ok (.iload 4, 2) := by decide +kernel
theorem dX7_submit_18 : decode cX7_submit 18 = .ok (.ireturn, 1) := by decide +kernel
theorem dX7_submit_19 : decode cX7_submit 19 = .ok (.aload_n 0, 1) := by decide +kernel
theorem dX7_submit_20 : decode cX7_submit 20 = .ok (.getfield 22, 3) := by decide +kernel
theorem dX7_submit_23 : decode cX7_submit 23 = .ok (.aload_n 0, 1) := by decide +kernel
theorem dX7_submit_24 : decode cX7_submit 24 = .ok (.getfield 10, 3) := by decide +kernel
theorem dX7_submit_27 : decode cX7_submit 27 = .ok (.invokevirtual 37, 3) := by decide +kernel
theorem dX7_submit_30 : decode cX7_submit 30 = .ok (.aload_n 0, 1) := by decide +kernel
theorem dX7_submit_31 : decode cX7_submit 31 = .ok (.getfield 10, 3) := by decide +kernel
theorem dX7_submit_34 : decode cX7_submit 34 = .ok (.iload_n 1, 1) := by decide +kernel
theorem dX7_submit_35 : decode cX7_submit 35 = .ok (.iload_n 2, 1) := by decide +kernel
theorem dX7_submit_36 : decode cX7_submit 36 = .ok (.iload_n 3, 1) := by decide +kernel
theorem dX7_submit_37 : decode cX7_submit 37 = .ok (.invokevirtual 41, 3) := by decide +kernel
theorem dX7_submit_40 : decode cX7_submit 40 = .ok (.ireturn, 1) := by decide +kernel
set_option maxRecDepth 20000 in
theorem ggX7_fail_X3_isClient : GoodIn wsX7_fail wsX3_isClient := goodIn_r _ [6] (by decide +kernel) (by decide +kernel)
set_option maxRecDepth 20000 in
theorem gX7_fail_X3_isClient : GoodIn wsX7_fail (va_wsS RX7 45 yX3_isClient wsX3_isClient) := goodIn_app (goodIn_of _ (by decide +kernel)) ggX7_fail_X3_isClient
set_option maxRecDepth 20000 in
theorem ggX7_fail_X2_push : GoodIn wsX7_fail wsX2_push := goodIn_r _ [11, 12, 13, 14, 15, 16, 17, 5, 18, 19, 20, 21, 22, 23, 24, 25, 26, 27, 28, 29, 30, 31, 32, 33, 34, 35, 36, 37, 38, 39, 40, 41, 42, 43, 44, 45, 46, 47, 48, 49, 50, 51, 52, 53, 54, 55, 56, 57, 58, 59, 60, 61, 62, 63, 64, 65, 66, 67, 68, 69, 70, 71, 72, 73, 74, 75, 76, 147, 148, 149, 150, 151, 152, 153, 154, 155, 156, 157, 158, 159, 160, 161, 162, 163, 164, 165, 166, 167, 168, 169, 170, 171, 172, 173, 174, 175, 176, 177, 178, 179] (by decide +kernel) (by decide +kernel)
set_option maxRecDepth 20000 in
theorem gX7_fail_X2_push : GoodIn wsX7_fail (wsV RX7 37 RX2 yX2_push wsX2_push) := goodIn_app (goodIn_of _ (by decide +kernel)) ggX7_fail_X2_push
set_option maxRecDepth 20000 in
theorem ggX7_fail_X3_loseClient : GoodIn wsX7_fail wsX3_loseClient := goodIn_r _ [80, 19, 23, 81, 82, 83, 5, 84, 28, 85, 4, 6, 86, 87, 88, 38, 89, 44, 90, 91, 92, 93, 49, 94, 95, 96, 97, 31, 20, 29, 30, 32, 98, 99, 100, 101, 48, 47, 102, 103, 104, 105, 106, 107, 108, 109, 42, 110, 111, 112, 53, 113, 57, 58, 114, 115, 116, 117, 60, 118, 119, 120, 121, 122, 123, 124, 125, 55, 126, 127, 128, 129, 130, 131, 132, 133, 134, 135, 136, 137, 40, 138, 139, 140, 141, 150, 151, 152, 153, 154, 155, 156, 157, 158, 159, 160, 161, 162, 163, 164, 165, 166, 167, 168, 169, 170, 171, 172, 173, 174, 175] (by decide +kernel) (by decide +kernel)
set_option maxRecDepth 20000 in
theorem gX7_fail_X3_loseClient : GoodIn wsX7_fail (wsV RX7 49 RX3 yX3_loseClient wsX3_loseClient) := goodIn_app (goodIn_of _ (by decide +kernel)) ggX7_fail_X3_loseClient
theorem dX7_fail_0 : decode cX7_fail 0 = .ok (.iload_n 1, 1) := by decide +kernel
theorem dX7_fail_1 : decode cX7_fail 1 = .ok (.invokestatic 45, 3) := by decide +kernel
theorem dX7_fail_4 : decode cX7_fail 4 = .ok (.ifCond .ne 5, 3) := by decide +kernel
theorem dX7_fail_7 : decode cX7_fail 7 = .ok (.iconst (-1), 1) := by decide +kernel
theorem dX7_fail_8 : decode cX7_fail 8 = .ok (.ireturn, 1) := by decide +kernel
theorem dX7_fail_9 : decode cX7_fail 9 = .ok (.aload_n 0, 1) := by decide +kernel
theorem dX7_fail_10 : decode cX7_fail 10 = .ok (.getfield 22, 3) := by decide +kernel
theorem dX7_fail_13 : decode cX7_fail 13 = .ok (.aload_n 0, 1) := by decide +kernel
theorem dX7_fail_14 : decode cX7_fail 14 = .ok (.getfield 10, 3) := by decide +kernel
theorem dX7_fail_17 : decode cX7_fail 17 = .ok (.invokevirtual 37, 3) := by decide +kernel
theorem dX7_fail_20 : decode cX7_fail 20 = .ok (.aload_n 0, 1) := by decide +kernel
theorem dX7_fail_21 : decode cX7_fail 21 = .ok (.getfield 10, 3) := by decide +kernel
theorem dX7_fail_24 : decode cX7_fail 24 = .ok (.iload_n 1, 1) := by decide +kernel
theorem dX7_fail_25 : decode cX7_fail 25 = .ok (.invokevirtual 49, 3) := by decide +kernel
theorem dX7_fail_28 : decode cX7_fail 28 = .ok (.ireturn, 1) := by decide +kernel
set_option maxRecDepth 20000 in
theorem ggX7_withdraw_X3_refusalToTakeBack : GoodIn wsX7_withdraw wsX3_refusalToTakeBack := goodIn_r _ [7, 8, 9, 10, 6, 11, 12, 13, 14, 15, 16, 17, 18, 19, 20, 21, 22, 23, 24, 25, 26, 27, 154, 155, 156, 157, 158, 159, 160, 161, 162, 163, 164, 165, 166, 167, 168, 169, 170, 171, 172, 173, 174] (by decide +kernel) (by decide +kernel)
set_option maxRecDepth 20000 in
theorem gX7_withdraw_X3_refusalToTakeBack : GoodIn wsX7_withdraw (wsV RX7 53 RX3 yX3_refusalToTakeBack wsX3_refusalToTakeBack) := goodIn_app (goodIn_of _ (by decide +kernel)) ggX7_withdraw_X3_refusalToTakeBack
set_option maxRecDepth 20000 in
theorem ggX7_withdraw_X2_push : GoodIn wsX7_withdraw wsX2_push := goodIn_r _ [32, 33, 34, 35, 36, 37, 38, 6, 39, 8, 40, 41, 42, 43, 44, 45, 46, 47, 16, 48, 49, 50, 51, 52, 53, 54, 55, 56, 20, 57, 58, 59, 60, 61, 22, 62, 63, 64, 65, 27, 66, 67, 68, 69, 70, 71, 72, 73, 74, 75, 76, 77, 78, 79, 80, 81, 82, 83, 84, 85, 86, 87, 88, 89, 90, 91, 92, 175, 176, 177, 154, 155, 156, 157, 158, 159, 160, 161, 162, 163, 164, 165, 166, 167, 168, 169, 170, 171, 172, 173, 174, 178, 179, 180, 181, 182, 183, 184, 185, 186] (by decide +kernel) (by decide +kernel)
set_option maxRecDepth 20000 in
theorem gX7_withdraw_X2_push : GoodIn wsX7_withdraw (wsV RX7 37 RX2 yX2_push wsX2_push) := goodIn_app (goodIn_of _ (by decide +kernel)) ggX7_withdraw_X2_push
set_option maxRecDepth 20000 in
theorem ggX7_withdraw_X3_takeBack : GoodIn wsX7_withdraw wsX3_takeBack := goodIn_r _ [96, 43, 40, 8, 12, 13, 14, 6, 15, 16, 9, 10, 11, 97, 98, 99, 100, 50, 48, 49, 51, 101, 102, 103, 20, 104, 27, 65, 64, 105, 106, 107, 108, 23, 24, 25, 26, 109, 110, 111, 112, 60, 113, 114, 115, 69, 116, 73, 74, 117, 118, 119, 120, 76, 121, 122, 123, 124, 125, 126, 127, 128, 71, 129, 130, 131, 132, 133, 134, 135, 136, 22, 137, 138, 139, 140, 58, 141, 142, 143, 144, 145, 146, 147, 148, 154, 155, 156, 157, 158, 159, 160, 161, 162, 163, 164, 165, 166, 167, 168, 169, 170, 171, 172, 173, 174, 178, 179, 180, 181, 182] (by decide +kernel) (by decide +kernel)
set_option maxRecDepth 20000 in
theorem gX7_withdraw_X3_takeBack : GoodIn wsX7_withdraw (wsV RX7 56 RX3 yX3_takeBack wsX3_takeBack) := goodIn_app (goodIn_of _ (by decide +kernel)) ggX7_withdraw_X3_takeBack
theorem dX7_withdraw_0 : decode cX7_withdraw 0 = .ok (.aload_n 0, 1) := by decide +kernel
theorem dX7_withdraw_1 : decode cX7_withdraw 1 = .ok (.getfield 10, 3) := by decide +kernel
theorem dX7_withdraw_4 : decode cX7_withdraw 4 = .ok (.iload_n 1, 1) := by decide +kernel
theorem dX7_withdraw_5 : decode cX7_withdraw 5 = .ok (.invokevirtual 53, 3) := by decide +kernel
theorem dX7_withdraw_8 : decode cX7_withdraw 8 = .ok (.istore_n 2, 1) := by decide +kernel
theorem dX7_withdraw_9 : decode cX7_withdraw 9 = .ok (.iload_n 2, 1) := by decide +kernel
theorem dX7_withdraw_10 : decode cX7_withdraw 10 = .ok (.ifCond .eq 5, 3) := by decide +kernel
theorem dX7_withdraw_13 : decode cX7_withdraw 13 = .ok (.iload_n 2, 1) := by decide +kernel
theorem dX7_withdraw_14 : decode cX7_withdraw 14 = .ok (.ireturn, 1) := by decide +kernel
theorem dX7_withdraw_15 : decode cX7_withdraw 15 = .ok (.aload_n 0, 1) := by decide +kernel
theorem dX7_withdraw_16 : decode cX7_withdraw 16 = .ok (.getfield 22, 3) := by decide +kernel
theorem dX7_withdraw_19 : decode cX7_withdraw 19 = .ok (.aload_n 0, 1) := by decide +kernel
theorem dX7_withdraw_20 : decode cX7_withdraw 20 = .ok (.getfield 10, 3) := by decide +kernel
theorem dX7_withdraw_23 : decode cX7_withdraw 23 = .ok (.invokevirtual 37, 3) := by decide +kernel
theorem dX7_withdraw_26 : decode cX7_withdraw 26 = .ok (.aload_n 0, 1) := by decide +kernel
theorem dX7_withdraw_27 : decode cX7_withdraw 27 = .ok (.getfield 10, 3) := by decide +kernel
theorem dX7_withdraw_30 : decode cX7_withdraw 30 = .ok (.iload_n 1, 1) := by decide +kernel
theorem dX7_withdraw_31 : decode cX7_withdraw 31 = .ok (.invokevirtual 56, 3) := by decide +kernel
theorem dX7_withdraw_34 : decode cX7_withdraw 34 = .ok (.ireturn, 1) := by decide +kernel
set_option maxRecDepth 20000 in
theorem ggX7_crash_X2_push : GoodIn wsX7_crash wsX2_push := goodIn_r _ [7, 8, 9, 10, 11, 12, 13, 14, 15, 16, 17, 18, 19, 20, 21, 22, 23, 24, 25, 26, 27, 28, 29, 30, 31, 32, 33, 34, 35, 36, 37, 38, 39, 40, 41, 42, 43, 44, 45, 46, 47, 48, 49, 50, 51, 52, 53, 54, 55, 56, 57, 58, 59, 60, 61, 62, 63, 64, 65, 66, 67, 68, 69, 70, 71, 72, 73, 126, 127, 128, 129, 130, 131, 132, 133, 134, 135, 136, 137, 138, 139, 140, 141, 142, 143, 144, 145, 146, 147, 148, 149, 150, 151, 152, 153, 154, 155, 156, 157, 158] (by decide +kernel) (by decide +kernel)
set_option maxRecDepth 20000 in
theorem gX7_crash_X2_push : GoodIn wsX7_crash (wsV RX7 37 RX2 yX2_push wsX2_push) := goodIn_app (goodIn_of _ (by decide +kernel)) ggX7_crash_X2_push
set_option maxRecDepth 20000 in
theorem ggX7_crash_X3_loseAll : GoodIn wsX7_crash wsX3_loseAll := goodIn_r _ [77, 25, 20, 78, 79, 80, 14, 81, 16, 82, 83, 84, 35, 85, 41, 86, 87, 88, 89, 46, 90, 91, 92, 93, 37, 94, 95, 96, 97, 98, 99, 100, 101, 102, 103, 104, 17, 30, 28, 18, 105, 106, 107, 50, 108, 52, 109, 110, 111, 112, 57, 113, 114, 115, 61, 116, 66, 65, 117, 118, 119, 120, 63, 129, 130, 131, 132, 133, 134, 135, 136, 137, 138, 139, 140, 141, 142, 143, 144, 145, 146, 147, 148, 149, 150, 151, 152, 153, 154, 155, 156, 157] (by decide +kernel) (by decide +kernel)
set_option maxRecDepth 20000 in
theorem gX7_crash_X3_loseAll : GoodIn wsX7_crash (wsV RX7 59 RX3 yX3_loseAll wsX3_loseAll) := goodIn_app (goodIn_of _ (by decide +kernel)) ggX7_crash_X3_loseAll
theorem dX7_crash_0 : decode cX7_crash 0 = .ok (.aload_n 0, 1) := by decide +kernel
theorem dX7_crash_1 : decode cX7_crash 1 = .ok (.getfield 22, 3) := by decide +kernel
theorem dX7_crash_4 : decode cX7_crash 4 = .ok (.aload_n 0, 1) := by decide +kernel
theorem dX7_crash_5 : decode cX7_crash 5 = .ok (.getfield 10, 3) := by decide +kernel
theorem dX7_crash_8 : decode cX7_crash 8 = .ok (.invokevirtual 37, 3) := by decide +kernel
theorem dX7_crash_11 : decode cX7_crash 11 = .ok (.aload_n 0, 1) := by decide +kernel
theorem dX7_crash_12 : decode cX7_crash 12 = .ok (.getfield 10, 3) := by decide +kernel
theorem dX7_crash_15 : decode cX7_crash 15 = .ok (.invokevirtual 59, 3) := by decide +kernel
theorem dX7_crash_18 : decode cX7_crash 18 = .ok (.ireturn, 1) := by decide +kernel
set_option maxRecDepth 20000 in
theorem ggX7_tick_X2_push : GoodIn wsX7_tick wsX2_push := goodIn_r _ [7, 8, 9, 10, 11, 12, 13, 14, 15, 16, 17, 18, 19, 20, 21, 22, 23, 24, 25, 26, 27, 28, 29, 30, 31, 32, 33, 34, 35, 36, 37, 38, 39, 40, 41, 42, 43, 44, 45, 46, 47, 48, 49, 50, 51, 52, 53, 54, 55, 56, 57, 58, 59, 60, 61, 62, 63, 64, 65, 66, 67, 68, 69, 70, 71, 72, 73, 170, 171, 172, 173, 174, 175, 176, 177, 178, 179, 180, 181, 182, 183, 184, 185, 186, 187, 188, 189, 190, 191, 192, 193, 194, 195, 196, 197, 198, 199, 200, 201, 202] (by decide +kernel) (by decide +kernel)
set_option maxRecDepth 20000 in
theorem gX7_tick_X2_push : GoodIn wsX7_tick (wsV RX7 37 RX2 yX2_push wsX2_push) := goodIn_app (goodIn_of _ (by decide +kernel)) ggX7_tick_X2_push
set_option maxRecDepth 20000 in
theorem ggX7_tick_X3_passTicks : GoodIn wsX7_tick wsX3_passTicks := goodIn_r _ [77, 78, 79, 80, 14, 81, 26, 30, 31, 28, 29, 82, 83, 84, 85, 17, 20, 25, 16, 86, 87, 88, 50, 89, 52, 90, 91, 92, 93, 57, 94, 95, 96, 97, 55, 98, 99, 100, 35, 101, 44, 102, 103, 104, 105, 46, 106, 107, 108, 109, 41, 43, 110, 111, 112, 113, 42, 114, 115, 116, 117, 18, 19, 118, 119, 120, 121, 56, 122, 123, 124, 125, 45, 126, 127, 128, 61, 129, 66, 63, 130, 131, 132, 70, 133, 72, 134, 135, 136, 137, 54, 138, 139, 140, 141, 27, 142, 143, 144, 145, 146, 147, 148, 149, 150, 151, 152, 153, 154, 155, 156, 65, 157, 158, 159, 160, 161, 162, 163, 164, 173, 174, 175, 176, 177, 178, 179, 180, 181, 182, 183, 184, 194, 195, 196, 197, 198, 185, 186, 187, 188, 189, 190, 191, 192, 193, 199, 200, 201, 202] (by decide +kernel) (by decide +kernel)
set_option maxRecDepth 20000 in
theorem gX7_tick_X3_passTicks : GoodIn wsX7_tick (wsV RX7 63 RX3 yX3_passTicks wsX3_passTicks) := goodIn_app (goodIn_of _ (by decide +kernel)) ggX7_tick_X3_passTicks
theorem dX7_tick_0 : decode cX7_tick 0 = .ok (.iload_n 1, 1) := by decide +kernel
theorem dX7_tick_1 : decode cX7_tick 1 = .ok (.iconst 1, 1) := by decide +kernel
theorem dX7_tick_2 : decode cX7_tick 2 = .ok (.if_icmp .lt 9, 3) := by decide +kernel
theorem dX7_tick_5 : decode cX7_tick 5 = .ok (.iload_n 1, 1) := by decide +kernel
theorem dX7_tick_6 : decode cX7_tick 6 = .ok (.bipush 99, 2) := by decide +kernel
theorem dX7_tick_8 : decode cX7_tick 8 = .ok (.if_icmp .le 6, 3) := by decide +kernel
theorem dX7_tick_11 : decode cX7_tick 11 = .ok (.bipush (-2), 2) := by decide +kernel
theorem dX7_tick_13 : decode cX7_tick 13 = .ok (.ireturn, 1) := by decide +kernel
theorem dX7_tick_14 : decode cX7_tick 14 = .ok (.aload_n 0, 1) := by decide +kernel
theorem dX7_tick_15 : decode cX7_tick 15 = .ok (.getfield 22, 3) := by decide +kernel
theorem dX7_tick_18 : decode cX7_tick 18 = .ok (.aload_n 0, 1) := by decide +kernel
theorem dX7_tick_19 : decode cX7_tick 19 = .ok (.getfield 10, 3) := by decide +kernel
theorem dX7_tick_22 : decode cX7_tick 22 = .ok (.invokevirtual 37, 3) := by decide +kernel
theorem dX7_tick_25 : decode cX7_tick 25 = .ok (.aload_n 0, 1) := by decide +kernel
theorem dX7_tick_26 : decode cX7_tick 26 = .ok (.getfield 10, 3) := by decide +kernel
theorem dX7_tick_29 : decode cX7_tick 29 = .ok (.iload_n 1, 1) := by decide +kernel
theorem dX7_tick_30 : decode cX7_tick 30 = .ok (.invokevirtual 63, 3) := by decide +kernel
theorem dX7_tick_33 : decode cX7_tick 33 = .ok (.ireturn, 1) := by decide +kernel
set_option maxRecDepth 20000 in
theorem ggX7_set_X6_refusal : GoodIn wsX7_set wsX6_refusal := goodIn_r _ [6, 7, 8] (by decide +kernel) (by decide +kernel)
set_option maxRecDepth 20000 in
theorem gX7_set_X6_refusal : GoodIn wsX7_set (va_wsS RX7 66 yX6_refusal wsX6_refusal) := goodIn_app (goodIn_of _ (by decide +kernel)) ggX7_set_X6_refusal
set_option maxRecDepth 20000 in
theorem ggX7_set_X2_push : GoodIn wsX7_set wsX2_push := goodIn_r _ [13, 14, 15, 16, 17, 18, 19, 20, 21, 22, 23, 24, 25, 26, 27, 28, 29, 30, 31, 32, 33, 34, 35, 36, 37, 38, 39, 40, 41, 42, 43, 44, 45, 46, 47, 48, 49, 50, 51, 52, 53, 54, 55, 56, 57, 58, 59, 60, 61, 62, 63, 64, 65, 66, 67, 68, 69, 70, 71, 72, 73, 74, 75, 5, 76, 77, 78, 96, 97, 98, 99, 100, 101, 102, 103, 104, 105, 106, 107, 108, 109, 110, 111, 112, 113, 114, 115, 116, 117, 118, 119, 120, 121, 122, 123, 124, 125, 126, 127, 128] (by decide +kernel) (by decide +kernel)
set_option maxRecDepth 20000 in
theorem gX7_set_X2_push : GoodIn wsX7_set (wsV RX7 37 RX2 yX2_push wsX2_push) := goodIn_app (goodIn_of _ (by decide +kernel)) ggX7_set_X2_push
set_option maxRecDepth 20000 in
theorem ggX7_set_X3_change : GoodIn wsX7_set wsX3_change := goodIn_r _ [82, 25, 83, 84, 85, 5, 86, 77, 87, 88, 89, 90, 99, 100, 101, 102, 103, 104, 105, 106, 107, 108, 109, 110, 128] (by decide +kernel) (by decide +kernel)
set_option maxRecDepth 20000 in
theorem gX7_set_X3_change : GoodIn wsX7_set (wsV RX7 71 RX3 yX3_change wsX3_change) := goodIn_app (goodIn_of _ (by decide +kernel)) ggX7_set_X3_change
theorem dX7_set_0 : decode cX7_set 0 = .ok (.iload_n 1, 1) := by decide +kernel
theorem dX7_set_1 : decode cX7_set 1 = .ok (.iload_n 2, 1) := by decide +kernel
theorem dX7_set_2 : decode cX7_set 2 = .ok (.invokestatic 66, 3) := by decide +kernel
theorem dX7_set_5 : decode cX7_set 5 = .ok (.istore_n 3, 1) := by decide +kernel
theorem dX7_set_6 : decode cX7_set 6 = .ok (.iload_n 3, 1) := by decide +kernel
theorem dX7_set_7 : decode cX7_set 7 = .ok (.ifCond .eq 5, 3) := by decide +kernel
theorem dX7_set_10 : decode cX7_set 10 = .ok (.iload_n 3, 1) := by decide +kernel
theorem dX7_set_11 : decode cX7_set 11 = .ok (.ireturn, 1) := by decide +kernel
theorem dX7_set_12 : decode cX7_set 12 = .ok (.aload_n 0, 1) := by decide +kernel
theorem dX7_set_13 : decode cX7_set 13 = .ok (.getfield 22, 3) := by decide +kernel
theorem dX7_set_16 : decode cX7_set 16 = .ok (.aload_n 0, 1) := by decide +kernel
theorem dX7_set_17 : decode cX7_set 17 = .ok (.getfield 10, 3) := by decide +kernel
theorem dX7_set_20 : decode cX7_set 20 = .ok (.invokevirtual 37, 3) := by decide +kernel
theorem dX7_set_23 : decode cX7_set 23 = .ok (.aload_n 0, 1) := by decide +kernel
theorem dX7_set_24 : decode cX7_set 24 = .ok (.getfield 10, 3) := by decide +kernel
theorem dX7_set_27 : decode cX7_set 27 = .ok (.iload_n 1, 1) := by decide +kernel
theorem dX7_set_28 : decode cX7_set 28 = .ok (.iload_n 2, 1) := by decide +kernel
theorem dX7_set_29 : decode cX7_set 29 = .ok (.invokevirtual 71, 3) := by decide +kernel
theorem dX7_set_32 : decode cX7_set 32 = .ok (.ireturn, 1) := by decide +kernel
set_option maxRecDepth 20000 in
theorem ggX7_append_X5_add : GoodIn wsX7_append wsX5_add := goodIn_r _ [6, 7, 8, 14, 15, 16, 17, 18, 19, 20] (by decide +kernel) (by decide +kernel)
set_option maxRecDepth 20000 in
theorem gX7_append_X5_add : GoodIn wsX7_append (wsV RX7 74 RX5 yX5_add wsX5_add) := goodIn_app (goodIn_of _ (by decide +kernel)) ggX7_append_X5_add
theorem dX7_append_0 : decode cX7_append 0 = .ok (.aload_n 0, 1) := by decide +kernel
theorem dX7_append_1 : decode cX7_append 1 = .ok (.getfield 29, 3) := by decide +kernel
theorem dX7_append_4 : decode cX7_append 4 = .ok (.iload_n 1, 1) := by decide +kernel
theorem dX7_append_5 : decode cX7_append 5 = .ok (.invokevirtual 74, 3) := by decide +kernel
theorem dX7_append_8 : decode cX7_append 8 = .ok (.ireturn, 1) := by decide +kernel
set_option maxRecDepth 20000 in
theorem ggX7_clearText_X5_empty : GoodIn wsX7_clearText wsX5_empty := goodIn_r _ [6, 7, 13, 14, 15, 16, 17, 18, 19] (by decide +kernel) (by decide +kernel)
set_option maxRecDepth 20000 in
theorem gX7_clearText_X5_empty : GoodIn wsX7_clearText (wsV RX7 77 RX5 yX5_empty wsX5_empty) := goodIn_app (goodIn_of _ (by decide +kernel)) ggX7_clearText_X5_empty
theorem dX7_clearText_0 : decode cX7_clearText 0 = .ok (.aload_n 0, 1) := by decide +kernel
theorem dX7_clearText_1 : decode cX7_clearText 1 = .ok (.getfield 29, 3) := by decide +kernel
theorem dX7_clearText_4 : decode cX7_clearText 4 = .ok (.invokevirtual 77, 3) := by decide +kernel
theorem dX7_clearText_7 : decode cX7_clearText 7 = .ok (.ireturn, 1) := by decide +kernel
set_option maxRecDepth 20000 in
theorem ggX7_fault_X5_firstFault : GoodIn wsX7_fault wsX5_firstFault := goodIn_r _ [6, 7, 8, 9, 10, 5, 11, 12, 13, 14, 15, 16, 17, 18, 19, 20, 21, 22, 23, 24, 30, 31, 32, 33, 34, 35, 36] (by decide +kernel) (by decide +kernel)
set_option maxRecDepth 20000 in
theorem gX7_fault_X5_firstFault : GoodIn wsX7_fault (wsV RX7 80 RX5 yX5_firstFault wsX5_firstFault) := goodIn_app (goodIn_of _ (by decide +kernel)) ggX7_fault_X5_firstFault
theorem dX7_fault_0 : decode cX7_fault 0 = .ok (.aload_n 0, 1) := by decide +kernel
theorem dX7_fault_1 : decode cX7_fault 1 = .ok (.getfield 29, 3) := by decide +kernel
theorem dX7_fault_4 : decode cX7_fault 4 = .ok (.invokevirtual 80, 3) := by decide +kernel
theorem dX7_fault_7 : decode cX7_fault 7 = .ok (.ireturn, 1) := by decide +kernel
set_option maxRecDepth 20000 in
theorem ggX7_run_X5_firstFault : GoodIn wsX7_run wsX5_firstFault := goodIn_r _ [8, 9, 10, 11, 12, 7, 13, 14, 15, 16, 17, 18, 19, 20, 21, 22, 23, 24, 25, 26, 346, 347, 348, 349, 350, 351, 352] (by decide +kernel) (by decide +kernel)
set_option maxRecDepth 20000 in
theorem gX7_run_X5_firstFault : GoodIn wsX7_run (wsV RX7 80 RX5 yX5_firstFault wsX5_firstFault) := goodIn_app (goodIn_of _ (by decide +kernel)) ggX7_run_X5_firstFault
set_option maxRecDepth 20000 in
theorem ggX7_run_X2_push : GoodIn wsX7_run wsX2_push := goodIn_r _ [31, 32, 33, 34, 35, 36, 37, 38, 39, 40, 41, 42, 43, 44, 45, 46, 47, 48, 49, 50, 51, 52, 53, 54, 55, 56, 57, 58, 59, 60, 61, 62, 63, 64, 65, 66, 67, 68, 69, 70, 71, 72, 73, 74, 75, 76, 77, 78, 79, 80, 81, 82, 83, 84, 85, 86, 87, 88, 89, 90, 91, 92, 93, 94, 95, 96, 97, 353, 354, 355, 356, 357, 358, 359, 360, 361, 362, 363, 364, 365, 366, 367, 368, 369, 370, 371, 372, 373, 374, 375, 376, 377, 378, 379, 380, 381, 382, 383, 384, 385] (by decide +kernel) (by decide +kernel)
set_option maxRecDepth 20000 in
theorem gX7_run_X2_push : GoodIn wsX7_run (wsV RX7 37 RX2 yX2_push wsX2_push) := goodIn_app (goodIn_of _ (by decide +kernel)) ggX7_run_X2_push
set_option maxRecDepth 20000 in
theorem ggX7_run_X5_orders : GoodIn wsX7_run wsX5_orders := goodIn_r _ [101, 9, 14, 346, 347, 348, 349, 350, 351, 352] (by decide +kernel) (by decide +kernel)
set_option maxRecDepth 20000 in
theorem gX7_run_X5_orders : GoodIn wsX7_run (wsV RX7 83 RX5 yX5_orders wsX5_orders) := goodIn_app (goodIn_of _ (by decide +kernel)) ggX7_run_X5_orders
set_option maxRecDepth 20000 in
theorem ggX7_run_X5_goToStart : GoodIn wsX7_run wsX5_goToStart := goodIn_r _ [105, 106, 346, 347, 348, 349, 350, 351, 352] (by decide +kernel) (by decide +kernel)
set_option maxRecDepth 20000 in
theorem gX7_run_X5_goToStart : GoodIn wsX7_run (wsV RX7 86 RX5 yX5_goToStart wsX5_goToStart) := goodIn_app (goodIn_of _ (by decide +kernel)) ggX7_run_X5_goToStart
set_option maxRecDepth 20000 in
theorem ggX7_run_X5_readOrder : GoodIn wsX7_run wsX5_readOrder := goodIn_r _ [110, 106, 111, 112, 10, 11, 12, 7, 13, 9, 14, 113, 114, 115, 116, 117, 118, 119, 24, 25, 26, 120, 121, 122, 123, 124, 125, 346, 347, 348, 349, 350, 351, 352] (by decide +kernel) (by decide +kernel)
set_option maxRecDepth 20000 in
theorem gX7_run_X5_readOrder : GoodIn wsX7_run (wsV RX7 89 RX5 yX5_readOrder wsX5_readOrder) := goodIn_app (goodIn_of _ (by decide +kernel)) ggX7_run_X5_readOrder
set_option maxRecDepth 20000 in
theorem ggX7_run_X7_carryOutOrder : GoodIn wsX7_run wsX7_carryOutOrder := goodIn_r _ [130, 1, 3, 131, 132, 133, 7, 134, 112, 135, 136, 137, 138, 111, 139, 140, 141, 142, 124, 143, 144, 145, 38, 146, 40, 147, 148, 149, 150, 151, 152, 153, 154, 155, 156, 49, 157, 158, 159, 59, 160, 70, 161, 162, 163, 164, 125, 165, 166, 167, 168, 52, 50, 41, 44, 53, 169, 170, 171, 172, 51, 173, 174, 175, 74, 176, 81, 76, 78, 79, 80, 177, 178, 179, 180, 61, 63, 64, 65, 66, 67, 68, 69, 181, 182, 183, 184, 185, 186, 187, 188, 189, 190, 191, 192, 193, 194, 195, 196, 197, 198, 199, 200, 201, 43, 202, 203, 204, 94, 205, 96, 206, 207, 208, 209, 42, 210, 211, 212, 213, 214, 215, 216, 217, 218, 219, 220, 85, 221, 90, 87, 222, 223, 224, 225, 226, 227, 228, 229, 230, 231, 232, 233, 234, 235, 236, 237, 238, 239, 240, 54, 55, 241, 242, 243, 244, 89, 245, 246, 247, 248, 249, 250, 251, 252, 253, 254, 255, 256, 257, 258, 259, 260, 261, 262, 263, 264, 265, 266, 267, 268, 269, 270, 271, 272, 273, 274, 275, 276, 277, 278, 279, 280, 281, 282, 283, 284, 285, 286, 287, 288, 289, 290, 291, 292, 293, 294, 295, 296, 297, 298, 299, 300, 301, 302, 303, 304, 305, 306, 307, 308, 309, 310, 311, 312, 313, 314, 315, 316, 317, 318, 319, 320, 321, 322, 323, 324, 325, 326, 327, 328, 329, 330, 331, 332, 333, 334, 335, 336, 337, 338, 339, 340, 341, 342, 343, 344, 345, 346, 347, 348, 349, 350, 351, 352, 356, 357, 358, 359, 360, 361, 362, 363, 364, 365, 366, 367, 368, 369, 370, 371, 372, 373, 374, 375, 376, 377, 378, 379, 380, 381, 385, 382, 383, 384] (by decide +kernel) (by decide +kernel)
set_option maxRecDepth 20000 in
theorem gX7_run_X7_carryOutOrder : GoodIn wsX7_run (wsV RX7 92 RX7 yX7_carryOutOrder wsX7_carryOutOrder) := goodIn_app (goodIn_of _ (by decide +kernel)) ggX7_run_X7_carryOutOrder
theorem dX7_run_0 : decode cX7_run 0 = .ok (.aload_n 0, 1) := by decide +kernel
theorem dX7_run_1 : decode cX7_run 1 = .ok (.getfield 29, 3) := by decide +kernel
theorem dX7_run_4 : decode cX7_run 4 = .ok (.invokevirtual 80, 3) := by decide +kernel
theorem dX7_run_7 : decode cX7_run 7 = .ok (.istore_n 1, 1) := by decide +kernel
theorem dX7_run_8 : decode cX7_run 8 = .ok (.iload_n 1, 1) := by decide +kernel
theorem dX7_run_9 : decode cX7_run 9 = .ok (.bipush (-5), 2) := by decide +kernel
theorem dX7_run_11 : decode cX7_run 11 = .ok (.if_icmp .eq 8, 3) := by decide +kernel
theorem dX7_run_14 : decode cX7_run 14 = .ok (.bipush (-100), 2) := by decide +kernel
theorem dX7_run_16 : decode cX7_run 16 = .ok (.iload_n 1, 1) := by decide +kernel
theorem dX7_run_17 : decode cX7_run 17 = .ok (.isub, 1) := by decide +kernel
theorem dX7_run_18 : decode cX7_run 18 = .ok (.ireturn, 1) := by decide +kernel
theorem dX7_run_19 : decode cX7_run 19 = .ok (.aload_n 0, 1) := by decide +kernel
theorem dX7_run_20 : decode cX7_run 20 = .ok (.getfield 22, 3) := by decide +kernel
theorem dX7_run_23 : decode cX7_run 23 = .ok (.aload_n 0, 1) := by decide +kernel
theorem dX7_run_24 : decode cX7_run 24 = .ok (.getfield 10, 3) := by decide +kernel
theorem dX7_run_27 : decode cX7_run 27 = .ok (.invokevirtual 37, 3) := by decide +kernel
theorem dX7_run_30 : decode cX7_run 30 = .ok (.aload_n 0, 1) := by decide +kernel
theorem dX7_run_31 : decode cX7_run 31 = .ok (.getfield 29, 3) := by decide +kernel
theorem dX7_run_34 : decode cX7_run 34 = .ok (.invokevirtual 83, 3) := by decide +kernel
theorem dX7_run_37 : decode cX7_run 37 = .ok (.istore_n 2, 1) := by decide +kernel
theorem dX7_run_38 : decode cX7_run 38 = .ok (.aload_n 0, 1) := by decide +kernel
theorem dX7_run_39 : decode cX7_run 39 = .ok (.getfield 29, 3) := by decide +kernel
theorem dX7_run_42 : decode cX7_run 42 = .ok (.invokevirtual 86, 3) := by decide +kernel
theorem dX7_run_45 : decode cX7_run 45 = .ok (.iconst 0, 1) := by decide +kernel
theorem dX7_run_46 : decode cX7_run 46 = .ok (.istore_n 3, 1) := by decide +kernel
theorem dX7_run_47 : decode cX7_run 47 = .ok (.iload_n 3, 1) := by decide +kernel
theorem dX7_run_48 : decode cX7_run 48 = .ok (.iload_n 2, 1) := by decide +kernel
theorem dX7_run_49 : decode cX7_run 49 = .ok (.if_icmp .ge 25, 3) := by decide +kernel
theorem dX7_run_52 : decode cX7_run 52 = .ok (.aload_n 0, 1) := by decide +kernel
theorem dX7_run_53 : decode cX7_run 53 = .ok (.getfield 29, 3) := by decide +kernel
theorem dX7_run_56 : decode cX7_run 56 = .ok (.invokevirtual 89, 3) := by decide +kernel
theorem dX7_run_59 : decode cX7_run 59 = .ok (.aload_n 0, 1) := by decide +kernel
theorem dX7_run_60 : decode cX7_run 60 = .ok (.invokevirtual 92, 3) := by decide +kernel
theorem dX7_run_63 : decode cX7_run 63 = .ok (.ifCond .ne 5, 3) := by decide +kernel
theorem dX7_run_66 : decode cX7_run 66 = .ok (.iload_n 3, 1) := by decide +kernel
theorem dX7_run_67 : decode cX7_run 67 = .ok (.ireturn, 1) := by decide +kernel
theorem dX7_run_68 : decode cX7_run 68 = .ok (.iinc 3 1, 3) := by decide +kernel
theorem dX7_run_71 : decode cX7_run 71 = .ok (.goto (-24), 3) := by decide +kernel
theorem dX7_run_74 : decode cX7_run 74 = .ok (.iload_n 2, 1) := by decide +kernel
theorem dX7_run_75 : decode cX7_run 75 = .ok (.ireturn, 1) := by decide +kernel
set_option maxRecDepth 20000 in
theorem ggX7_carryOutOrder_X5_number : GoodIn wsX7_carryOutOrder wsX5_number := goodIn_r _ [7, 8, 258, 259, 260, 261, 262, 263, 264] (by decide +kernel) (by decide +kernel)
set_option maxRecDepth 20000 in
theorem gX7_carryOutOrder_X5_number : GoodIn wsX7_carryOutOrder (wsV RX7 96 RX5 yX5_number wsX5_number) := goodIn_app (goodIn_of _ (by decide +kernel)) ggX7_carryOutOrder_X5_number
set_option maxRecDepth 20000 in
theorem ggX7_carryOutOrder_X5_kind : GoodIn wsX7_carryOutOrder wsX5_kind := goodIn_r _ [12, 13, 258, 259, 260, 261, 262, 263, 264] (by decide +kernel) (by decide +kernel)
set_option maxRecDepth 20000 in
theorem gX7_carryOutOrder_X5_kind : GoodIn wsX7_carryOutOrder (wsV RX7 99 RX5 yX5_kind wsX5_kind) := goodIn_app (goodIn_of _ (by decide +kernel)) ggX7_carryOutOrder_X5_kind
set_option maxRecDepth 20000 in
theorem ggX7_carryOutOrder_X5_records : GoodIn wsX7_carryOutOrder wsX5_records := goodIn_r _ [17, 18, 258, 259, 260, 261, 262, 263, 264] (by decide +kernel) (by decide +kernel)
set_option maxRecDepth 20000 in
theorem gX7_carryOutOrder_X5_records : GoodIn wsX7_carryOutOrder (wsV RX7 102 RX5 yX5_records wsX5_records) := goodIn_app (goodIn_of _ (by decide +kernel)) ggX7_carryOutOrder_X5_records
set_option maxRecDepth 20000 in
theorem ggX7_carryOutOrder_X3_refusalToEnter : GoodIn wsX7_carryOutOrder wsX3_refusalToEnter := goodIn_r _ [23, 24, 25, 26, 22, 27, 28, 29, 30, 31, 32, 33, 34, 35, 36, 37, 38, 39, 40, 41, 265, 266, 267, 268, 269, 270, 271, 272, 273, 274, 275, 276, 277, 278, 279, 280, 281, 282, 283, 284, 285] (by decide +kernel) (by decide +kernel)
set_option maxRecDepth 20000 in
theorem gX7_carryOutOrder_X3_refusalToEnter : GoodIn wsX7_carryOutOrder (wsV RX7 33 RX3 yX3_refusalToEnter wsX3_refusalToEnter) := goodIn_app (goodIn_of _ (by decide +kernel)) ggX7_carryOutOrder_X3_refusalToEnter
set_option maxRecDepth 20000 in
theorem ggX7_carryOutOrder_X5_isUrgent : GoodIn wsX7_carryOutOrder wsX5_isUrgent := goodIn_r _ [45, 46, 258, 259, 260, 261, 262, 263, 264] (by decide +kernel) (by decide +kernel)
set_option maxRecDepth 20000 in
theorem gX7_carryOutOrder_X5_isUrgent : GoodIn wsX7_carryOutOrder (wsV RX7 105 RX5 yX5_isUrgent wsX5_isUrgent) := goodIn_app (goodIn_of _ (by decide +kernel)) ggX7_carryOutOrder_X5_isUrgent
set_option maxRecDepth 20000 in
theorem ggX7_carryOutOrder_X3_enter : GoodIn wsX7_carryOutOrder wsX3_enter := goodIn_r _ [50, 51, 24, 52, 53, 54, 55, 56, 57, 58, 22, 59, 60, 61, 62, 63, 64, 65, 66, 67, 68, 69, 70, 71, 72, 73, 39, 74, 41, 75, 76, 77, 78, 79, 80, 81, 82, 83, 37, 38, 40, 84, 85, 86, 87, 88, 89, 90, 91, 92, 93, 94, 95, 35, 25, 26, 27, 96, 97, 98, 99, 100, 101, 102, 103, 104, 105, 106, 107, 108, 109, 110, 111, 112, 113, 114, 115, 116, 117, 118, 119, 120, 121, 122, 123, 124, 125, 126, 127, 128, 129, 130, 131, 132, 133, 134, 135, 136, 137, 138, 139, 140, 141, 142, 143, 144, 145, 146, 147, 148, 149, 150, 151, 152, 153, 154, 155, 156, 157, 158, 159, 160, 161, 162, 163, 164, 165, 166, 167, 168, 265, 266, 267, 268, 269, 270, 271, 272, 273, 274, 275, 276, 286, 287, 288, 289, 290, 277, 278, 279, 280, 281, 282, 283, 284, 285, 291, 292, 293, 294] (by decide +kernel) (by decide +kernel)
set_option maxRecDepth 20000 in
theorem gX7_carryOutOrder_X3_enter : GoodIn wsX7_carryOutOrder (wsV RX7 41 RX3 yX3_enter wsX3_enter) := goodIn_app (goodIn_of _ (by decide +kernel)) ggX7_carryOutOrder_X3_enter
set_option maxRecDepth 20000 in
theorem ggX7_carryOutOrder_X3_loseClient : GoodIn wsX7_carryOutOrder wsX3_loseClient := goodIn_r _ [172, 24, 54, 31, 32, 33, 22, 34, 35, 25, 26, 27, 173, 174, 175, 39, 176, 78, 177, 178, 179, 180, 41, 181, 182, 183, 184, 51, 53, 52, 60, 55, 185, 186, 187, 188, 82, 81, 189, 190, 191, 192, 193, 194, 195, 196, 76, 197, 198, 199, 64, 200, 68, 69, 88, 89, 90, 91, 66, 131, 132, 133, 134, 165, 166, 167, 168, 67, 201, 202, 203, 204, 205, 206, 207, 208, 209, 210, 211, 212, 75, 92, 93, 94, 95, 265, 266, 267, 268, 269, 270, 271, 272, 273, 274, 275, 276, 277, 278, 279, 280, 281, 282, 283, 284, 285, 286, 287, 288, 289, 290] (by decide +kernel) (by decide +kernel)
set_option maxRecDepth 20000 in
theorem gX7_carryOutOrder_X3_loseClient : GoodIn wsX7_carryOutOrder (wsV RX7 49 RX3 yX3_loseClient wsX3_loseClient) := goodIn_app (goodIn_of _ (by decide +kernel)) ggX7_carryOutOrder_X3_loseClient
set_option maxRecDepth 20000 in
theorem ggX7_carryOutOrder_X3_refusalToTakeBack : GoodIn wsX7_carryOutOrder wsX3_refusalToTakeBack := goodIn_r _ [216, 24, 25, 26, 22, 27, 31, 32, 33, 34, 35, 173, 174, 175, 39, 176, 78, 177, 178, 179, 180, 41, 265, 266, 267, 268, 269, 270, 271, 272, 273, 274, 275, 276, 277, 278, 279, 280, 281, 282, 283, 284, 285] (by decide +kernel) (by decide +kernel)
set_option maxRecDepth 20000 in
theorem gX7_carryOutOrder_X3_refusalToTakeBack : GoodIn wsX7_carryOutOrder (wsV RX7 53 RX3 yX3_refusalToTakeBack wsX3_refusalToTakeBack) := goodIn_app (goodIn_of _ (by decide +kernel)) ggX7_carryOutOrder_X3_refusalToTakeBack
set_option maxRecDepth 20000 in
theorem ggX7_carryOutOrder_X3_takeBack : GoodIn wsX7_carryOutOrder wsX3_takeBack := goodIn_r _ [220, 54, 53, 24, 31, 32, 33, 22, 34, 35, 25, 26, 27, 181, 182, 183, 184, 51, 52, 60, 55, 185, 186, 187, 39, 188, 41, 82, 81, 189, 190, 191, 192, 177, 178, 179, 180, 193, 194, 195, 196, 76, 197, 198, 199, 64, 200, 68, 69, 88, 89, 90, 91, 66, 131, 132, 133, 134, 165, 166, 167, 168, 67, 201, 202, 203, 204, 205, 206, 207, 208, 78, 209, 210, 211, 212, 75, 92, 93, 94, 95, 221, 222, 223, 224, 265, 266, 267, 268, 269, 270, 271, 272, 273, 274, 275, 276, 277, 278, 279, 280, 281, 282, 283, 284, 285, 286, 287, 288, 289, 290] (by decide +kernel) (by decide +kernel)
set_option maxRecDepth 20000 in
theorem gX7_carryOutOrder_X3_takeBack : GoodIn wsX7_carryOutOrder (wsV RX7 56 RX3 yX3_takeBack wsX3_takeBack) := goodIn_app (goodIn_of _ (by decide +kernel)) ggX7_carryOutOrder_X3_takeBack
set_option maxRecDepth 20000 in
theorem ggX7_carryOutOrder_X3_passTicks : GoodIn wsX7_carryOutOrder wsX3_passTicks := goodIn_r _ [228, 229, 230, 231, 22, 232, 52, 150, 151, 51, 55, 233, 234, 235, 236, 53, 54, 35, 24, 165, 166, 167, 64, 168, 67, 88, 89, 90, 91, 66, 96, 97, 98, 99, 69, 221, 222, 223, 39, 224, 81, 177, 178, 179, 180, 41, 237, 238, 239, 240, 78, 80, 241, 242, 243, 244, 79, 111, 112, 113, 114, 115, 104, 116, 117, 118, 119, 70, 120, 121, 122, 123, 82, 124, 125, 126, 127, 128, 129, 130, 105, 106, 107, 108, 109, 110, 131, 132, 133, 134, 68, 135, 136, 137, 138, 60, 139, 140, 141, 142, 143, 144, 145, 146, 147, 148, 149, 152, 153, 154, 155, 156, 157, 158, 159, 160, 161, 162, 163, 164, 265, 266, 267, 268, 269, 270, 271, 272, 273, 274, 275, 276, 286, 287, 288, 289, 290, 277, 278, 279, 280, 281, 282, 283, 284, 285, 292, 293, 294, 291] (by decide +kernel) (by decide +kernel)
set_option maxRecDepth 20000 in
theorem gX7_carryOutOrder_X3_passTicks : GoodIn wsX7_carryOutOrder (wsV RX7 63 RX3 yX3_passTicks wsX3_passTicks) := goodIn_app (goodIn_of _ (by decide +kernel)) ggX7_carryOutOrder_X3_passTicks
set_option maxRecDepth 20000 in
theorem ggX7_carryOutOrder_X3_loseAll : GoodIn wsX7_carryOutOrder wsX3_loseAll := goodIn_r _ [248, 35, 54, 201, 202, 203, 22, 204, 24, 205, 206, 207, 39, 208, 78, 177, 178, 179, 180, 41, 209, 210, 211, 212, 75, 92, 93, 94, 95, 25, 26, 27, 249, 250, 251, 252, 53, 150, 51, 115, 165, 166, 167, 64, 168, 67, 88, 89, 90, 91, 66, 152, 153, 154, 127, 155, 129, 156, 157, 158, 159, 160, 130, 265, 266, 267, 268, 269, 270, 271, 272, 273, 274, 275, 276, 277, 278, 279, 280, 281, 282, 283, 284, 285, 286, 287, 288, 289, 290, 292, 293, 294] (by decide +kernel) (by decide +kernel)
set_option maxRecDepth 20000 in
theorem gX7_carryOutOrder_X3_loseAll : GoodIn wsX7_carryOutOrder (wsV RX7 59 RX3 yX3_loseAll wsX3_loseAll) := goodIn_app (goodIn_of _ (by decide +kernel)) ggX7_carryOutOrder_X3_loseAll
theorem dX7_carryOutOrder_0 : decode cX7_carryOutOrder 0 = .ok (.aload_n 0, 1) := by decide +kernel
theorem dX7_carryOutOrder_1 : decode cX7_carryOutOrder 1 = .ok (.getfield 29, 3) := by decide +kernel
theorem dX7_carryOutOrder_4 : decode cX7_carryOutOrder 4 = .ok (.invokevirtual 96, 3) := by decide +kernel
theorem dX7_carryOutOrder_7 : decode cX7_carryOutOrder 7 = .ok (.istore_n 1, 1) := by decide +kernel
theorem dX7_carryOutOrder_8 : decode cX7_carryOutOrder 8 = .ok (.aload_n 0, 1) := by decide +kernel
theorem dX7_carryOutOrder_9 : decode cX7_carryOutOrder 9 = .ok (.getfield 29, 3) := by decide +kernel
theorem dX7_carryOutOrder_12 : decode cX7_carryOutOrder 12 = .ok (.invokevirtual 99, 3) := by decide +kernel
theorem dX7_carryOutOrder_15 : decode cX7_carryOutOrder 15 = .ok (.tableswitch 120 0 3 #[29, 74, 85, 109], 29) := by decide +kernel
theorem dX7_carryOutOrder_44 : decode cX7_carryOutOrder 44 = .ok (.aload_n 0, 1) := by decide +kernel
theorem dX7_carryOutOrder_45 : decode cX7_carryOutOrder 45 = .ok (.getfield 10, 3) := by decide +kernel
theorem dX7_carryOutOrder_48 : decode cX7_carryOutOrder 48 = .ok (.iload_n 1, 1) := by decide +kernel
theorem dX7_carryOutOrder_49 : decode cX7_carryOutOrder 49 = .ok (.aload_n 0, 1) := by decide +kernel
theorem dX7_carryOutOrder_50 : decode cX7_carryOutOrder 50 = .ok (.getfield 29, 3) := by decide +kernel
theorem dX7_carryOutOrder_53 : decode cX7_carryOutOrder 53 = .ok (.invokevirtual 102, 3) := by decide +kernel
theorem dX7_carryOutOrder_56 : decode cX7_carryOutOrder 56 = .ok (.invokevirtual 33, 3) := by decide +kernel
theorem dX7_carryOutOrder_59 : decode cX7_carryOutOrder 59 = .ok (.ifCond .eq 5, 3) := by decide +kernel
theorem dX7_carryOutOrder_62 : decode cX7_carryOutOrder 62 = .ok (.iconst 0, 1) := by decide +kernel
theorem dX7_carryOutOrder_63 : decode cX7_carryOutOrder 63 = .ok (.ireturn, 1) := by decide +kernel
theorem dX7_carryOutOrder_64 : decode cX7_carryOutOrder 64 = .ok (.aload_n 0, 1) := by decide +kernel
theorem dX7_carryOutOrder_65 : decode cX7_carryOutOrder 65 = .ok (.getfield 10, 3) := by decide +kernel
theorem dX7_carryOutOrder_68 : decode cX7_carryOutOrder 68 = .ok (.iload_n 1, 1) := by decide +kernel
theorem dX7_carryOutOrder_69 : decode cX7_carryOutOrder 69 = .ok (.aload_n 0, 1) := by decide +kernel
theorem dX7_carryOutOrder_70 : decode cX7_carryOutOrder 70 = .ok (.getfield 29, 3) := by decide +kernel
theorem dX7_carryOutOrder_73 : decode cX7_carryOutOrder 73 = .ok (.invokevirtual 102, 3) := by decide +kernel
theorem dX7_carryOutOrder_76 : decode cX7_carryOutOrder 76 = .ok (.aload_n 0, 1) := by decide +kernel
theorem dX7_carryOutOrder_77 : decode cX7_carryOutOrder 77 = .ok (.getfield 29, 3) := by decide +kernel
theorem dX7_carryOutOrder_80 : decode cX7_carryOutOrder 80 = .ok (.invokevirtual 105, 3) := by decide +kernel
theorem dX7_carryOutOrder_83 : decode cX7_carryOutOrder 83 = .ok (.invokevirtual 41, 3) := by decide +kernel
theorem dX7_carryOutOrder_86 : decode cX7_carryOutOrder 86 = .ok (.pop, 1) := by decide +kernel
theorem dX7_carryOutOrder_87 : decode cX7_carryOutOrder 87 = .ok (.iconst 1, 1) := by decide +kernel
theorem dX7_carryOutOrder_88 : decode cX7_carryOutOrder 88 = .ok (.ireturn, 1) := by decide +kernel
theorem dX7_carryOutOrder_89 : decode cX7_carryOutOrder 89 = .ok (.aload_n 0, 1) := by decide +kernel
theorem dX7_carryOutOrder_90 : decode cX7_carryOutOrder 90 = .ok (.getfield 10, 3) := by decide +kernel
theorem dX7_carryOutOrder_93 : decode cX7_carryOutOrder 93 = .ok (.iload_n 1, 1) := by decide +kernel
theorem dX7_carryOutOrder_94 : decode cX7_carryOutOrder 94 = .ok (.invokevirtual 49, 3) := by decide +kernel
theorem dX7_carryOutOrder_97 : decode cX7_carryOutOrder 97 = .ok (.pop, 1) := by decide +kernel
theorem dX7_carryOutOrder_98 : decode cX7_carryOutOrder 98 = .ok (.iconst 1, 1) := by decide +kernel
theorem dX7_carryOutOrder_99 : decode cX7_carryOutOrder 99 = .ok (.ireturn, 1) := by decide +kernel
theorem dX7_carryOutOrder_100 : decode cX7_carryOutOrder 100 = .ok (.aload_n 0, 1) := by decide +kernel
theorem dX7_carryOutOrder_101 : decode cX7_carryOutOrder 101 = .ok (.getfield 10, 3) := by decide +kernel
theorem dX7_carryOutOrder_104 : decode cX7_carryOutOrder 104 = .ok (.iload_n 1, 1) := by decide +kernel
theorem dX7_carryOutOrder_105 : decode cX7_carryOutOrder 105 = .ok (.invokevirtual 53, 3) := by decide +kernel
theorem dX7_carryOutOrder_108 : decode cX7_carryOutOrder 108 = .ok (.ifCond .eq 5, 3) := by decide +kernel
theorem dX7_carryOutOrder_111 : decode cX7_carryOutOrder 111 = .ok (.iconst 0, 1) := by decide +kernel
theorem dX7_carryOutOrder_112 : decode cX7_carryOutOrder 112 = .ok (.ireturn, 1) := by decide +kernel
theorem dX7_carryOutOrder_113 : decode cX7_carryOutOrder 113 = .ok (.aload_n 0, 1) := by decide +kernel
theorem dX7_carryOutOrder_114 : decode cX7_carryOutOrder 114 = .ok (.getfield 10, 3) := by decide +kernel
theorem dX7_carryOutOrder_117 : decode cX7_carryOutOrder 117 = .ok (.iload_n 1, 1) := by decide +kernel
theorem dX7_carryOutOrder_118 : decode cX7_carryOutOrder 118 = .ok (.invokevirtual 56, 3) := by decide +kernel
theorem dX7_carryOutOrder_121 : decode cX7_carryOutOrder 121 = .ok (.pop, 1) := by decide +kernel
theorem dX7_carryOutOrder_122 : decode cX7_carryOutOrder 122 = .ok (.iconst 1, 1) := by decide +kernel
theorem dX7_carryOutOrder_123 : decode cX7_carryOutOrder 123 = .ok (.ireturn, 1) := by decide +kernel
theorem dX7_carryOutOrder_124 : decode cX7_carryOutOrder 124 = .ok (.aload_n 0, 1) := by decide +kernel
theorem dX7_carryOutOrder_125 : decode cX7_carryOutOrder 125 = .ok (.getfield 10, 3) := by decide +kernel
theorem dX7_carryOutOrder_128 : decode cX7_carryOutOrder 128 = .ok (.iload_n 1, 1) := by decide +kernel
theorem dX7_carryOutOrder_129 : decode cX7_carryOutOrder 129 = .ok (.invokevirtual 63, 3) := by decide +kernel
theorem dX7_carryOutOrder_132 : decode cX7_carryOutOrder 132 = .ok (.pop, 1) := by decide +kernel
theorem dX7_carryOutOrder_133 : decode cX7_carryOutOrder 133 = .ok (.iconst 1, 1) := by decide +kernel
theorem dX7_carryOutOrder_134 : decode cX7_carryOutOrder 134 = .ok (.ireturn, 1) := by decide +kernel
theorem dX7_carryOutOrder_135 : decode cX7_carryOutOrder 135 = .ok (.aload_n 0, 1) := by decide +kernel
theorem dX7_carryOutOrder_136 : decode cX7_carryOutOrder 136 = .ok (.getfield 10, 3) := by decide +kernel
theorem dX7_carryOutOrder_139 : decode cX7_carryOutOrder 139 = .ok (.invokevirtual 59, 3) := by decide +kernel
theorem dX7_carryOutOrder_142 : decode cX7_carryOutOrder 142 = .ok (.pop, 1) := by decide +kernel
theorem dX7_carryOutOrder_143 : decode cX7_carryOutOrder 143 = .ok (.iconst 1, 1) := by decide +kernel
theorem dX7_carryOutOrder_144 : decode cX7_carryOutOrder 144 = .ok (.ireturn, 1) := by decide +kernel
set_option maxRecDepth 20000 in
theorem ggX7_undo_X2_popInto : GoodIn wsX7_undo wsX2_popInto := goodIn_r _ [7, 8, 9, 10, 11, 12, 13, 14, 15, 16, 17, 18, 19, 20, 21, 22, 23, 24, 25, 26, 27, 28, 29, 30, 31, 32, 33, 34, 35, 36, 37, 38, 39, 40, 41, 42, 43, 44, 45, 46, 47, 48, 49, 50, 51, 52, 53, 54, 55, 56, 57, 58, 59, 60, 61, 62, 63, 64, 65, 66, 67, 68, 69, 70, 71, 72, 73, 79, 80, 81, 82, 83, 84, 85, 86, 87, 88, 89, 90, 91, 92, 93, 94, 95, 96, 97, 98, 99, 100, 101, 102, 103, 104, 105, 106, 107, 108, 109, 110, 111] (by decide +kernel) (by decide +kernel)
set_option maxRecDepth 20000 in
theorem gX7_undo_X2_popInto : GoodIn wsX7_undo (wsV RX7 108 RX2 yX2_popInto wsX2_popInto) := goodIn_app (goodIn_of _ (by decide +kernel)) ggX7_undo_X2_popInto
theorem dX7_undo_0 : decode cX7_undo 0 = .ok (.aload_n 0, 1) := by decide +kernel
theorem dX7_undo_1 : decode cX7_undo 1 = .ok (.getfield 22, 3) := by decide +kernel
theorem dX7_undo_4 : decode cX7_undo 4 = .ok (.aload_n 0, 1) := by decide +kernel
theorem dX7_undo_5 : decode cX7_undo 5 = .ok (.getfield 10, 3) := by decide +kernel
theorem dX7_undo_8 : decode cX7_undo 8 = .ok (.invokevirtual 108, 3) := by decide +kernel
theorem dX7_undo_11 : decode cX7_undo 11 = .ok (.ireturn, 1) := by decide +kernel
set_option maxRecDepth 20000 in
theorem ggX7_save_X3_copyFrom : GoodIn wsX7_save wsX3_copyFrom := goodIn_r _ [8, 9, 10, 11, 12, 13, 14, 15, 16, 17, 18, 19, 20, 21, 22, 23, 24, 25, 26, 27, 28, 29, 30, 31, 32, 33, 34, 35, 36, 37, 38, 39, 40, 41, 42, 43, 44, 45, 46, 47, 48, 49, 50, 51, 52, 53, 54, 55, 56, 57, 58, 59, 60, 61, 62, 63, 64, 65, 66, 76, 77, 78, 79, 80, 81, 82, 83, 84, 85, 86, 87, 88, 89, 90, 91, 92, 93, 94, 95, 96, 97, 98, 99, 100, 101, 102, 103, 104, 105] (by decide +kernel) (by decide +kernel)
set_option maxRecDepth 20000 in
theorem gX7_save_X3_copyFrom : GoodIn wsX7_save (wsV RX7 112 RX3 yX3_copyFrom wsX3_copyFrom) := goodIn_app (goodIn_of _ (by decide +kernel)) ggX7_save_X3_copyFrom
set_option maxRecDepth 20000 in
theorem ggX7_save_X3_time : GoodIn wsX7_save wsX3_time := goodIn_r _ [70, 19, 76, 77, 78, 79, 80, 81, 82, 83, 84, 85, 86, 87] (by decide +kernel) (by decide +kernel)
set_option maxRecDepth 20000 in
theorem gX7_save_X3_time : GoodIn wsX7_save (wsV RX7 119 RX3 yX3_time wsX3_time) := goodIn_app (goodIn_of _ (by decide +kernel)) ggX7_save_X3_time
theorem dX7_save_0 : decode cX7_save 0 = .ok (.aload_n 0, 1) := by decide +kernel
theorem dX7_save_1 : decode cX7_save 1 = .ok (.getfield 16, 3) := by decide +kernel
theorem dX7_save_4 : decode cX7_save 4 = .ok (.aload_n 0, 1) := by decide +kernel
theorem dX7_save_5 : decode cX7_save 5 = .ok (.getfield 10, 3) := by decide +kernel
theorem dX7_save_8 : decode cX7_save 8 = .ok (.invokevirtual 112, 3) := by decide +kernel
theorem dX7_save_11 : decode cX7_save 11 = .ok (.aload_n 0, 1) := by decide +kernel
theorem dX7_save_12 : decode cX7_save 12 = .ok (.iconst 1, 1) := by decide +kernel
theorem dX7_save_13 : decode cX7_save 13 = .ok (.putfield 115, 3) := by decide +kernel
theorem dX7_save_16 : decode cX7_save 16 = .ok (.aload_n 0, 1) := by decide +kernel
theorem dX7_save_17 : decode cX7_save 17 = .ok (.getfield 10, 3) := by decide +kernel
theorem dX7_save_20 : decode cX7_save 20 = .ok (.invokevirtual 119, 3) := by decide +kernel
theorem dX7_save_23 : decode cX7_save 23 = .ok (.ireturn, 1) := by decide +kernel
set_option maxRecDepth 20000 in
theorem ggX7_restore_X2_push : GoodIn wsX7_restore wsX2_push := goodIn_r _ [9, 10, 11, 12, 13, 14, 15, 16, 17, 18, 19, 20, 21, 22, 23, 24, 25, 26, 27, 28, 29, 30, 31, 32, 33, 34, 35, 36, 37, 38, 39, 40, 41, 42, 43, 44, 45, 46, 47, 48, 49, 50, 51, 52, 53, 54, 55, 56, 57, 58, 59, 60, 61, 62, 63, 64, 65, 66, 67, 68, 69, 70, 71, 72, 73, 74, 75, 86, 87, 88, 89, 90, 91, 92, 93, 94, 95, 96, 97, 98, 99, 100, 101, 102, 103, 104, 105, 106, 107, 108, 109, 110, 111, 112, 113, 114, 115, 116, 117, 118] (by decide +kernel) (by decide +kernel)
set_option maxRecDepth 20000 in
theorem gX7_restore_X2_push : GoodIn wsX7_restore (wsV RX7 37 RX2 yX2_push wsX2_push) := goodIn_app (goodIn_of _ (by decide +kernel)) ggX7_restore_X2_push
set_option maxRecDepth 20000 in
theorem ggX7_restore_X3_copyFrom : GoodIn wsX7_restore wsX3_copyFrom := goodIn_r _ [17, 18, 19, 20, 21, 22, 23, 24, 25, 26, 27, 28, 29, 30, 31, 32, 33, 34, 35, 36, 37, 38, 39, 40, 41, 42, 43, 44, 45, 46, 47, 48, 49, 50, 51, 52, 53, 54, 55, 56, 57, 58, 59, 60, 61, 62, 63, 64, 65, 66, 67, 68, 69, 70, 71, 72, 73, 74, 75, 89, 90, 91, 92, 93, 94, 95, 96, 97, 98, 99, 100, 101, 102, 103, 104, 105, 106, 107, 108, 109, 110, 111, 112, 113, 114, 115, 116, 117, 118] (by decide +kernel) (by decide +kernel)
set_option maxRecDepth 20000 in
theorem gX7_restore_X3_copyFrom : GoodIn wsX7_restore (wsV RX7 112 RX3 yX3_copyFrom wsX3_copyFrom) := goodIn_app (goodIn_of _ (by decide +kernel)) ggX7_restore_X3_copyFrom
set_option maxRecDepth 20000 in
theorem ggX7_restore_X3_time : GoodIn wsX7_restore wsX3_time := goodIn_r _ [80, 28, 89, 90, 91, 92, 93, 94, 95, 96, 97, 98, 99, 100] (by decide +kernel) (by decide +kernel)
set_option maxRecDepth 20000 in
theorem gX7_restore_X3_time : GoodIn wsX7_restore (wsV RX7 119 RX3 yX3_time wsX3_time) := goodIn_app (goodIn_of _ (by decide +kernel)) ggX7_restore_X3_time
theorem dX7_restore_0 : decode cX7_restore 0 = .ok (.aload_n 0, 1) := by decide +kernel
theorem dX7_restore_1 : decode cX7_restore 1 = .ok (.getfield 115, 3) := by decide +kernel
theorem dX7_restore_4 : decode cX7_restore 4 = .ok (.ifCond .ne 6, 3) := by decide +kernel
theorem dX7_restore_7 : decode cX7_restore 7 = .ok (.bipush (-4), 2) := by decide +kernel
theorem dX7_restore_9 : decode cX7_restore 9 = .ok (.ireturn, 1) := by decide +kernel
theorem dX7_restore_10 : decode cX7_restore 10 = .ok (.aload_n 0, 1) := by decide +kernel
theorem dX7_restore_11 : decode cX7_restore 11 = .ok (.getfield 22, 3) := by decide +kernel
theorem dX7_restore_14 : decode cX7_restore 14 = .ok (.aload_n 0, 1) := by decide +kernel
theorem dX7_restore_15 : decode cX7_restore 15 = .ok (.getfield 10, 3) := by decide +kernel
theorem dX7_restore_18 : decode cX7_restore 18 = .ok (.invokevirtual 37, 3) := by decide +kernel
theorem dX7_restore_21 : decode cX7_restore 21 = .ok (.aload_n 0, 1) := by decide +kernel
theorem dX7_restore_22 : decode cX7_restore 22 = .ok (.getfield 10, 3) := by decide +kernel
theorem dX7_restore_25 : decode cX7_restore 25 = .ok (.aload_n 0, 1) := by decide +kernel
theorem dX7_restore_26 : decode cX7_restore 26 = .ok (.getfield 16, 3) := by decide +kernel
theorem dX7_restore_29 : decode cX7_restore 29 = .ok (.invokevirtual 112, 3) := by decide +kernel
theorem dX7_restore_32 : decode cX7_restore 32 = .ok (.aload_n 0, 1) := by decide +kernel
theorem dX7_restore_33 : decode cX7_restore 33 = .ok (.getfield 10, 3) := by decide +kernel
theorem dX7_restore_36 : decode cX7_restore 36 = .ok (.invokevirtual 119, 3) := by decide +kernel
theorem dX7_restore_39 : decode cX7_restore 39 = .ok (.ireturn, 1) := by decide +kernel
set_option maxRecDepth 20000 in
theorem ggX7_commit_X3_aboutCommit : GoodIn wsX7_commit wsX3_aboutCommit := goodIn_r _ [6, 7, 8, 9, 10, 11, 12, 13, 14, 15, 16, 17, 18, 19, 20, 21, 22, 23, 24, 25, 26, 27, 28, 29, 30, 31, 32, 33, 34, 35, 36, 37, 38, 39, 40, 41, 42, 43, 44, 45, 46, 47, 48, 49, 55, 56, 57, 58, 59, 60, 61, 62, 63, 64, 65, 66, 67, 68, 69, 70, 71, 72, 73, 74, 75] (by decide +kernel) (by decide +kernel)
set_option maxRecDepth 20000 in
theorem gX7_commit_X3_aboutCommit : GoodIn wsX7_commit (wsV RX7 122 RX3 yX3_aboutCommit wsX3_aboutCommit) := goodIn_app (goodIn_of _ (by decide +kernel)) ggX7_commit_X3_aboutCommit
theorem dX7_commit_0 : decode cX7_commit 0 = .ok (.aload_n 0, 1) := by decide +kernel
theorem dX7_commit_1 : decode cX7_commit 1 = .ok (.getfield 10, 3) := by decide +kernel
theorem dX7_commit_4 : decode cX7_commit 4 = .ok (.iload_n 1, 1) := by decide +kernel
theorem dX7_commit_5 : decode cX7_commit 5 = .ok (.iload_n 2, 1) := by decide +kernel
theorem dX7_commit_6 : decode cX7_commit 6 = .ok (.invokevirtual 122, 3) := by decide +kernel
theorem dX7_commit_9 : decode cX7_commit 9 = .ok (.ireturn, 1) := by decide +kernel
set_option maxRecDepth 20000 in
theorem ggX7_group_X3_aboutGroup : GoodIn wsX7_group wsX3_aboutGroup := goodIn_r _ [6, 7, 8, 9, 10, 11, 12, 13, 14, 15, 16, 17, 18, 19, 20, 21, 22, 23, 24, 25, 26, 27, 28, 29, 30, 31, 32, 33, 34, 35, 36, 37, 38, 39, 40, 41, 42, 43, 44, 45, 46, 47, 48, 49, 50, 51, 52, 53, 54, 55, 56, 62, 63, 64, 65, 66, 67, 68, 69, 70, 71, 72, 73, 74, 75, 76, 77, 78, 79, 80, 81, 82, 83, 84, 85, 86, 87] (by decide +kernel) (by decide +kernel)
set_option maxRecDepth 20000 in
theorem gX7_group_X3_aboutGroup : GoodIn wsX7_group (wsV RX7 125 RX3 yX3_aboutGroup wsX3_aboutGroup) := goodIn_app (goodIn_of _ (by decide +kernel)) ggX7_group_X3_aboutGroup
theorem dX7_group_0 : decode cX7_group 0 = .ok (.aload_n 0, 1) := by decide +kernel
theorem dX7_group_1 : decode cX7_group 1 = .ok (.getfield 10, 3) := by decide +kernel
theorem dX7_group_4 : decode cX7_group 4 = .ok (.iload_n 1, 1) := by decide +kernel
theorem dX7_group_5 : decode cX7_group 5 = .ok (.iload_n 2, 1) := by decide +kernel
theorem dX7_group_6 : decode cX7_group 6 = .ok (.invokevirtual 125, 3) := by decide +kernel
theorem dX7_group_9 : decode cX7_group 9 = .ok (.ireturn, 1) := by decide +kernel
set_option maxRecDepth 20000 in
theorem ggX7_member_X3_memberAt : GoodIn wsX7_member wsX3_memberAt := goodIn_r _ [6, 7, 8, 9, 10, 11, 12, 13, 14, 15, 16, 17, 18, 19, 20, 21, 22, 28, 29, 30, 31, 32, 33, 34, 35, 36, 37, 38, 39, 40, 41, 42, 43, 44, 45, 46, 47, 48, 49, 50, 51, 52, 53] (by decide +kernel) (by decide +kernel)
set_option maxRecDepth 20000 in
theorem gX7_member_X3_memberAt : GoodIn wsX7_member (wsV RX7 128 RX3 yX3_memberAt wsX3_memberAt) := goodIn_app (goodIn_of _ (by decide +kernel)) ggX7_member_X3_memberAt
theorem dX7_member_0 : decode cX7_member 0 = .ok (.aload_n 0, 1) := by decide +kernel
theorem dX7_member_1 : decode cX7_member 1 = .ok (.getfield 10, 3) := by decide +kernel
theorem dX7_member_4 : decode cX7_member 4 = .ok (.iload_n 1, 1) := by decide +kernel
theorem dX7_member_5 : decode cX7_member 5 = .ok (.iload_n 2, 1) := by decide +kernel
theorem dX7_member_6 : decode cX7_member 6 = .ok (.invokevirtual 128, 3) := by decide +kernel
theorem dX7_member_9 : decode cX7_member 9 = .ok (.ireturn, 1) := by decide +kernel
set_option maxRecDepth 20000 in
theorem ggX7_open_X3_isClient : GoodIn wsX7_open wsX3_isClient := goodIn_r _ [5] (by decide +kernel) (by decide +kernel)
set_option maxRecDepth 20000 in
theorem gX7_open_X3_isClient : GoodIn wsX7_open (va_wsS RX7 45 yX3_isClient wsX3_isClient) := goodIn_app (goodIn_of _ (by decide +kernel)) ggX7_open_X3_isClient
set_option maxRecDepth 20000 in
theorem ggX7_open_X3_openCommitOf : GoodIn wsX7_open wsX3_openCommitOf := goodIn_r _ [9, 10, 11, 3, 4, 5, 17, 18, 19, 20, 21, 22, 23, 24, 25, 26, 27, 28] (by decide +kernel) (by decide +kernel)
set_option maxRecDepth 20000 in
theorem gX7_open_X3_openCommitOf : GoodIn wsX7_open (wsV RX7 131 RX3 yX3_openCommitOf wsX3_openCommitOf) := goodIn_app (goodIn_of _ (by decide +kernel)) ggX7_open_X3_openCommitOf
theorem dX7_open_0 : decode cX7_open 0 = .ok (.iload_n 1, 1) := by decide +kernel
theorem dX7_open_1 : decode cX7_open 1 = .ok (.invokestatic 45, 3) := by decide +kernel
theorem dX7_open_4 : decode cX7_open 4 = .ok (.ifCond .ne 5, 3) := by decide +kernel
theorem dX7_open_7 : decode cX7_open 7 = .ok (.iconst (-1), 1) := by decide +kernel
theorem dX7_open_8 : decode cX7_open 8 = .ok (.ireturn, 1) := by decide +kernel
theorem dX7_open_9 : decode cX7_open 9 = .ok (.aload_n 0, 1) := by decide +kernel
theorem dX7_open_10 : decode cX7_open 10 = .ok (.getfield 10, 3) := by decide +kernel
theorem dX7_open_13 : decode cX7_open 13 = .ok (.iload_n 1, 1) := by decide +kernel
theorem dX7_open_14 : decode cX7_open 14 = .ok (.invokevirtual 131, 3) := by decide +kernel
theorem dX7_open_17 : decode cX7_open 17 = .ok (.ireturn, 1) := by decide +kernel
set_option maxRecDepth 20000 in
theorem ggX7_queued_X3_queuedAt : GoodIn wsX7_queued wsX3_queuedAt := goodIn_r _ [6, 7, 8, 9, 10, 11, 12, 13, 14, 15, 16, 17, 18, 19, 25, 26, 27, 28, 29, 30, 31, 32, 33, 34, 35, 36, 37, 38, 39] (by decide +kernel) (by decide +kernel)
set_option maxRecDepth 20000 in
theorem gX7_queued_X3_queuedAt : GoodIn wsX7_queued (wsV RX7 134 RX3 yX3_queuedAt wsX3_queuedAt) := goodIn_app (goodIn_of _ (by decide +kernel)) ggX7_queued_X3_queuedAt
theorem dX7_queued_0 : decode cX7_queued 0 = .ok (.iload_n 1, 1) := by decide +kernel
theorem dX7_queued_1 : decode cX7_queued 1 = .ok (.ifCond .ge 6, 3) := by decide +kernel
theorem dX7_queued_4 : decode cX7_queued 4 = .ok (.bipush (-2), 2) := by decide +kernel
theorem dX7_queued_6 : decode cX7_queued 6 = .ok (.ireturn, 1) := by decide +kernel
theorem dX7_queued_7 : decode cX7_queued 7 = .ok (.aload_n 0, 1) := by decide +kernel
theorem dX7_queued_8 : decode cX7_queued 8 = .ok (.getfield 10, 3) := by decide +kernel
theorem dX7_queued_11 : decode cX7_queued 11 = .ok (.iload_n 1, 1) := by decide +kernel
theorem dX7_queued_12 : decode cX7_queued 12 = .ok (.invokevirtual 134, 3) := by decide +kernel
theorem dX7_queued_15 : decode cX7_queued 15 = .ok (.ireturn, 1) := by decide +kernel
set_option maxRecDepth 20000 in
theorem ggX7_count_X2_size : GoodIn wsX7_count wsX2_size := goodIn_r _ [8, 9, 50, 51, 52] (by decide +kernel) (by decide +kernel)
set_option maxRecDepth 20000 in
theorem gX7_count_X2_size : GoodIn wsX7_count (wsV RX7 137 RX2 yX2_size wsX2_size) := goodIn_app (goodIn_of _ (by decide +kernel)) ggX7_count_X2_size
set_option maxRecDepth 20000 in
theorem ggX7_count_X5_length : GoodIn wsX7_count wsX5_length := goodIn_r _ [14, 15, 53, 54, 55, 56, 57, 58, 59] (by decide +kernel) (by decide +kernel)
set_option maxRecDepth 20000 in
theorem gX7_count_X5_length : GoodIn wsX7_count (wsV RX7 140 RX5 yX5_length wsX5_length) := goodIn_app (goodIn_of _ (by decide +kernel)) ggX7_count_X5_length
set_option maxRecDepth 20000 in
theorem ggX7_count_X3_aboutNow : GoodIn wsX7_count wsX3_aboutNow := goodIn_r _ [20, 21, 22, 23, 24, 25, 26, 27, 28, 29, 30, 31, 32, 33, 34, 35, 36, 19, 37, 38, 39, 40, 41, 42, 43, 44, 60, 61, 62, 63, 64, 65, 66, 67, 68, 69, 70, 71, 72, 73, 74, 75] (by decide +kernel) (by decide +kernel)
set_option maxRecDepth 20000 in
theorem gX7_count_X3_aboutNow : GoodIn wsX7_count (wsV RX7 143 RX3 yX3_aboutNow wsX3_aboutNow) := goodIn_app (goodIn_of _ (by decide +kernel)) ggX7_count_X3_aboutNow
theorem dX7_count_0 : decode cX7_count 0 = .ok (.iload_n 1, 1) := by decide +kernel
theorem dX7_count_1 : decode cX7_count 1 = .ok (.bipush 10, 2) := by decide +kernel
theorem dX7_count_3 : decode cX7_count 3 = .ok (.if_icmp .ne 11, 3) := by decide +kernel
theorem dX7_count_6 : decode cX7_count 6 = .ok (.aload_n 0, 1) := by decide +kernel
theorem dX7_count_7 : decode cX7_count 7 = .ok (.getfield 22, 3) := by decide +kernel
theorem dX7_count_10 : decode cX7_count 10 = .ok (.invokevirtual 137, 3) := by decide +kernel
theorem dX7_count_13 : decode cX7_count 13 = .ok (.ireturn, 1) := by decide +kernel
theorem dX7_count_14 : decode cX7_count 14 = .ok (.iload_n 1, 1) := by decide +kernel
theorem dX7_count_15 : decode cX7_count 15 = .ok (.bipush 11, 2) := by decide +kernel
theorem dX7_count_17 : decode cX7_count 17 = .ok (.if_icmp .ne 11, 3) := by decide +kernel
theorem dX7_count_20 : decode cX7_count 20 = .ok (.aload_n 0, 1) := by decide +kernel
theorem dX7_count_21 : decode cX7_count 21 = .ok (.getfield 29, 3) := by decide +kernel
theorem dX7_count_24 : decode cX7_count 24 = .ok (.invokevirtual 140, 3) := by decide +kernel
theorem dX7_count_27 : decode cX7_count 27 = .ok (.ireturn, 1) := by decide +kernel
theorem dX7_count_28 : decode cX7_count 28 = .ok (.aload_n 0, 1) := by decide +kernel
theorem dX7_count_29 : decode cX7_count 29 = .ok (.getfield 10, 3) := by decide +kernel
theorem dX7_count_32 : decode cX7_count 32 = .ok (.iload_n 1, 1) := by decide +kernel
theorem dX7_count_33 : decode cX7_count 33 = .ok (.invokevirtual 143, 3) := by decide +kernel
theorem dX7_count_36 : decode cX7_count 36 = .ok (.ireturn, 1) := by decide +kernel
set_option maxRecDepth 20000 in
theorem ggX7_total_X3_totalOf : GoodIn wsX7_total wsX3_totalOf := goodIn_r _ [6, 7, 13, 14, 15, 16, 17, 18, 19, 20, 21, 22, 23, 24] (by decide +kernel) (by decide +kernel)
set_option maxRecDepth 20000 in
theorem gX7_total_X3_totalOf : GoodIn wsX7_total (wsV RX7 146 RX3 yX3_totalOf wsX3_totalOf) := goodIn_app (goodIn_of _ (by decide +kernel)) ggX7_total_X3_totalOf
theorem dX7_total_0 : decode cX7_total 0 = .ok (.aload_n 0, 1) := by decide +kernel
theorem dX7_total_1 : decode cX7_total 1 = .ok (.getfield 10, 3) := by decide +kernel
theorem dX7_total_4 : decode cX7_total 4 = .ok (.iload_n 1, 1) := by decide +kernel
theorem dX7_total_5 : decode cX7_total 5 = .ok (.invokevirtual 146, 3) := by decide +kernel
theorem dX7_total_8 : decode cX7_total 8 = .ok (.ireturn, 1) := by decide +kernel
set_option maxRecDepth 20000 in
theorem ggX7_answeredIn_X3_isClient : GoodIn wsX7_answeredIn wsX3_isClient := goodIn_r _ [5] (by decide +kernel) (by decide +kernel)
set_option maxRecDepth 20000 in
theorem gX7_answeredIn_X3_isClient : GoodIn wsX7_answeredIn (va_wsS RX7 45 yX3_isClient wsX3_isClient) := goodIn_app (goodIn_of _ (by decide +kernel)) ggX7_answeredIn_X3_isClient
set_option maxRecDepth 20000 in
theorem ggX7_answeredIn_X3_ticksToAnswer : GoodIn wsX7_answeredIn wsX3_ticksToAnswer := goodIn_r _ [9, 10, 11, 12, 13, 4, 14, 15, 16, 3, 5, 17, 18, 19, 20, 21, 22, 23, 24, 25, 26, 27, 28, 29, 30, 31, 32, 33, 34, 35, 36, 37, 38, 39, 40, 41, 42, 43, 44, 45, 46, 47, 48, 49, 50, 51, 52, 53, 54, 55, 56, 57, 58, 59, 60, 61, 62, 63, 64, 65, 66, 67, 68, 69, 70, 71, 72, 73, 74, 75, 76, 77, 78, 79, 80, 86, 87, 88, 89, 90, 91, 92, 93, 94, 95, 96, 97, 98, 99, 100, 101, 102, 103, 104, 105, 106, 107, 108, 109, 110, 111, 112, 113, 114, 115] (by decide +kernel) (by decide +kernel)
set_option maxRecDepth 20000 in
theorem gX7_answeredIn_X3_ticksToAnswer : GoodIn wsX7_answeredIn (wsV RX7 149 RX3 yX3_ticksToAnswer wsX3_ticksToAnswer) := goodIn_app (goodIn_of _ (by decide +kernel)) ggX7_answeredIn_X3_ticksToAnswer
theorem dX7_answeredIn_0 : decode cX7_answeredIn 0 = .ok (.iload_n 1, 1) := by decide +kernel
theorem dX7_answeredIn_1 : decode cX7_answeredIn 1 = .ok (.invokestatic 45, 3) := by decide +kernel
theorem dX7_answeredIn_4 : decode cX7_answeredIn 4 = .ok (.ifCond .ne 5, 3) := by decide +kernel
theorem dX7_answeredIn_7 : decode cX7_answeredIn 7 = .ok (.iconst (-1), 1) := by decide +kernel
theorem dX7_answeredIn_8 : decode cX7_answeredIn 8 = .ok (.ireturn, 1) := by decide +kernel
theorem dX7_answeredIn_9 : decode cX7_answeredIn 9 = .ok (.aload_n 0, 1) := by decide +kernel
theorem dX7_answeredIn_10 : decode cX7_answeredIn 10 = .ok (.getfield 10, 3) := by decide +kernel
theorem dX7_answeredIn_13 : decode cX7_answeredIn 13 = .ok (.iload_n 1, 1) := by decide +kernel
theorem dX7_answeredIn_14 : decode cX7_answeredIn 14 = .ok (.invokevirtual 149, 3) := by decide +kernel
theorem dX7_answeredIn_17 : decode cX7_answeredIn 17 = .ok (.ireturn, 1) := by decide +kernel
set_option maxRecDepth 20000 in
theorem ggX7_ifSubmitted_X3_refusalOfAnyEntry : GoodIn wsX7_ifSubmitted wsX3_refusalOfAnyEntry := goodIn_r _ [6, 7, 8, 9, 5, 10, 11, 12, 13, 14, 15, 16, 17, 18, 19, 20, 21, 90, 91, 92, 93, 94, 95, 96, 97, 98, 99, 100, 101, 102, 103, 104, 105, 106, 107, 108, 109, 110] (by decide +kernel) (by decide +kernel)
set_option maxRecDepth 20000 in
theorem gX7_ifSubmitted_X3_refusalOfAnyEntry : GoodIn wsX7_ifSubmitted (wsV RX7 152 RX3 yX3_refusalOfAnyEntry wsX3_refusalOfAnyEntry) := goodIn_app (goodIn_of _ (by decide +kernel)) ggX7_ifSubmitted_X3_refusalOfAnyEntry
set_option maxRecDepth 20000 in
theorem ggX7_ifSubmitted_X3_ticksIfEntered : GoodIn wsX7_ifSubmitted wsX3_ticksIfEntered := goodIn_r _ [25, 26, 27, 28, 29, 30, 31, 32, 33, 34, 35, 36, 37, 38, 39, 40, 41, 42, 43, 44, 45, 46, 47, 48, 5, 49, 50, 51, 52, 53, 54, 55, 56, 57, 58, 59, 60, 61, 62, 63, 64, 65, 66, 67, 68, 69, 70, 71, 72, 73, 74, 75, 76, 77, 78, 79, 80, 81, 82, 83, 84, 90, 91, 92, 93, 94, 95, 96, 97, 98, 99, 100, 101, 111, 112, 113, 114, 115, 116, 117, 118, 119] (by decide +kernel) (by decide +kernel)
set_option maxRecDepth 20000 in
theorem gX7_ifSubmitted_X3_ticksIfEntered : GoodIn wsX7_ifSubmitted (wsV RX7 155 RX3 yX3_ticksIfEntered wsX3_ticksIfEntered) := goodIn_app (goodIn_of _ (by decide +kernel)) ggX7_ifSubmitted_X3_ticksIfEntered
theorem dX7_ifSubmitted_0 : decode cX7_ifSubmitted 0 = .ok (.aload_n 0, 1) := by decide +kernel
theorem dX7_ifSubmitted_1 : decode cX7_ifSubmitted 1 = .ok (.getfield 10, 3) := by decide +kernel
theorem dX7_ifSubmitted_4 : decode cX7_ifSubmitted 4 = .ok (.iload_n 1, 1) := by decide +kernel
theorem dX7_ifSubmitted_5 : decode cX7_ifSubmitted 5 = .ok (.invokevirtual 152, 3) := by decide +kernel
theorem dX7_ifSubmitted_8 : decode cX7_ifSubmitted 8 = .ok (.istore_n 3, 1) := by decide +kernel
theorem dX7_ifSubmitted_9 : decode cX7_ifSubmitted 9 = .ok (.iload_n 3, 1) := by decide +kernel
theorem dX7_ifSubmitted_10 : decode cX7_ifSubmitted 10 = .ok (.ifCond .eq 5, 3) := by decide +kernel
theorem dX7_ifSubmitted_13 : decode cX7_ifSubmitted 13 = .ok (.iload_n 3, 1) := by decide +kernel
theorem dX7_ifSubmitted_14 : decode cX7_ifSubmitted 14 = .ok (.ireturn, 1) := by decide +kernel
theorem dX7_ifSubmitted_15 : decode cX7_ifSubmitted 15 = .ok (.aload_n 0, 1) := by decide +kernel
theorem dX7_ifSubmitted_16 : decode cX7_ifSubmitted 16 = .ok (.getfield 10, 3) := by decide +kernel
theorem dX7_ifSubmitted_19 : decode cX7_ifSubmitted 19 = .ok (.iload_n 1, 1) := by decide +kernel
theorem dX7_ifSubmitted_20 : decode cX7_ifSubmitted 20 = .ok (.iload_n 2, 1) := by decide +kernel
theorem dX7_ifSubmitted_21 : decode cX7_ifSubmitted 21 = .ok (.invokevirtual 155, 3) := by decide +kernel
theorem dX7_ifSubmitted_24 : decode cX7_ifSubmitted 24 = .ok (.ireturn, 1) := by decide +kernel
set_option maxRecDepth 20000 in
theorem ggX7_idleIn_X3_ticksToIdle : GoodIn wsX7_idleIn wsX3_ticksToIdle := goodIn_r _ [6, 7, 8, 9, 10, 11, 12, 13, 5, 14, 15, 16, 17, 18, 19, 20, 21, 22, 23, 24, 25, 26, 27, 28, 29, 30, 31, 32, 33, 34, 35, 36, 37, 38, 39, 40, 41, 42, 43, 44, 45, 46, 47, 48, 49, 50, 51, 52, 53, 54, 55, 56, 57, 58, 59, 60, 61, 62, 63, 64, 65, 66, 67, 68, 69, 70, 71, 72, 73, 74, 75, 76, 77, 78, 79, 80, 81, 82, 83, 89, 90, 91, 92, 93, 94, 95, 96, 97, 98, 99, 100, 101, 102, 103, 104, 105, 106, 107, 108, 109, 110, 111, 112, 113, 114, 115, 116, 117, 118] (by decide +kernel) (by decide +kernel)
set_option maxRecDepth 20000 in
theorem gX7_idleIn_X3_ticksToIdle : GoodIn wsX7_idleIn (wsV RX7 159 RX3 yX3_ticksToIdle wsX3_ticksToIdle) := goodIn_app (goodIn_of _ (by decide +kernel)) ggX7_idleIn_X3_ticksToIdle
theorem dX7_idleIn_0 : decode cX7_idleIn 0 = .ok (.aload_n 0, 1) := by decide +kernel
theorem dX7_idleIn_1 : decode cX7_idleIn 1 = .ok (.getfield 10, 3) := by decide +kernel
theorem dX7_idleIn_4 : decode cX7_idleIn 4 = .ok (.invokevirtual 159, 3) := by decide +kernel
theorem dX7_idleIn_7 : decode cX7_idleIn 7 = .ok (.ireturn, 1) := by decide +kernel
set_option maxRecDepth 20000 in
theorem ggX7_mean_X3_meanTicks : GoodIn wsX7_mean wsX3_meanTicks := goodIn_r _ [6, 7, 13, 14, 15, 16, 17, 18, 19, 20, 21, 22, 23, 24] (by decide +kernel) (by decide +kernel)
set_option maxRecDepth 20000 in
theorem gX7_mean_X3_meanTicks : GoodIn wsX7_mean (wsV RX7 162 RX3 yX3_meanTicks wsX3_meanTicks) := goodIn_app (goodIn_of _ (by decide +kernel)) ggX7_mean_X3_meanTicks
theorem dX7_mean_0 : decode cX7_mean 0 = .ok (.aload_n 0, 1) := by decide +kernel
theorem dX7_mean_1 : decode cX7_mean 1 = .ok (.getfield 10, 3) := by decide +kernel
theorem dX7_mean_4 : decode cX7_mean 4 = .ok (.invokevirtual 162, 3) := by decide +kernel
theorem dX7_mean_7 : decode cX7_mean 7 = .ok (.dreturn, 1) := by decide +kernel
