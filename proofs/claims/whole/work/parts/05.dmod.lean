theorem dX3_init_0 : decode cX3_init 0 = .ok (.aload_n 0, 1) := by decide +kernel
theorem dX3_init_1 : decode cX3_init 1 = .ok (.invokespecial 1, 3) := by decide +kernel
theorem dX3_init_4 : decode cX3_init 4 = .ok (.aload_n 0, 1) := by decide +kernel
theorem dX3_init_5 : decode cX3_init 5 = .ok (.bipush 7, 2) := by decide +kernel
theorem dX3_init_7 : decode cX3_init 7 = .ok (.newarray .int, 2) := by decide +kernel
theorem dX3_init_9 : decode cX3_init 9 = .ok (.putfield 7, 3) := by decide +kernel
theorem dX3_init_12 : decode cX3_init 12 = .ok (.aload_n 0, 1) := by decide +kernel
theorem dX3_init_13 : decode cX3_init 13 = .ok (.bipush 8, 2) := by decide +kernel
theorem dX3_init_15 : decode cX3_init 15 = .ok (.newarray .int, 2) := by decide +kernel
theorem dX3_init_17 : decode cX3_init 17 = .ok (.putfield 13, 3) := by decide +kernel
theorem dX3_init_20 : decode cX3_init 20 = .ok (.aload_n 0, 1) := by decide +kernel
theorem dX3_init_21 : decode cX3_init 21 = .ok (.bipush 8, 2) := by decide +kernel
theorem dX3_init_23 : decode cX3_init 23 = .ok (.newarray .int, 2) := by decide +kernel
theorem dX3_init_25 : decode cX3_init 25 = .ok (.putfield 16, 3) := by decide +kernel
theorem dX3_init_28 : decode cX3_init 28 = .ok (.aload_n 0, 1) := by decide +kernel
theorem dX3_init_29 : decode cX3_init 29 = .ok (.bipush 8, 2) := by decide +kernel
theorem dX3_init_31 : decode cX3_init 31 = .ok (.newarray .int, 2) := by decide +kernel
theorem dX3_init_33 : decode cX3_init 33 = .ok (.putfield 19, 3) := by decide +kernel
theorem dX3_init_36 : decode cX3_init 36 = .ok (.aload_n 0, 1) := by decide +kernel
theorem dX3_init_37 : decode cX3_init 37 = .ok (.iconst 5, 1) := by decide +kernel
theorem dX3_init_38 : decode cX3_init 38 = .ok (.newarray .int, 2) := by decide +kernel
theorem dX3_init_40 : decode cX3_init 40 = .ok (.putfield 22, 3) := by decide +kernel
theorem dX3_init_43 : decode cX3_init 43 = .ok (.aload_n 0, 1) := by decide +kernel
theorem dX3_init_44 : decode cX3_init 44 = .ok (.iconst 5, 1) := by decide +kernel
theorem dX3_init_45 : decode cX3_init 45 = .ok (.newarray .int, 2) := by decide +kernel
theorem dX3_init_47 : decode cX3_init 47 = .ok (.putfield 25, 3) := by decide +kernel
theorem dX3_init_50 : decode cX3_init 50 = .ok (.aload_n 0, 1) := by decide +kernel
theorem dX3_init_51 : decode cX3_init 51 = .ok (.iconst 5, 1) := by decide +kernel
theorem dX3_init_52 : decode cX3_init 52 = .ok (.newarray .int, 2) := by decide +kernel
theorem dX3_init_54 : decode cX3_init 54 = .ok (.putfield 28, 3) := by decide +kernel
theorem dX3_init_57 : decode cX3_init 57 = .ok (.aload_n 0, 1) := by decide +kernel
theorem dX3_init_58 : decode cX3_init 58 = .ok (.bipush 12, 2) := by decide +kernel
theorem dX3_init_60 : decode cX3_init 60 = .ok (.newarray .int, 2) := by decide +kernel
theorem dX3_init_62 : decode cX3_init 62 = .ok (.putfield 31, 3) := by decide +kernel
theorem dX3_init_65 : decode cX3_init 65 = .ok (.aload_n 0, 1) := by decide +kernel
theorem dX3_init_66 : decode cX3_init 66 = .ok (.bipush 12, 2) := by decide +kernel
theorem dX3_init_68 : decode cX3_init 68 = .ok (.newarray .int, 2) := by decide +kernel
theorem dX3_init_70 : decode cX3_init 70 = .ok (.putfield 34, 3) := by decide +kernel
theorem dX3_init_73 : decode cX3_init 73 = .ok (.aload_n 0, 1) := by decide +kernel
theorem dX3_init_74 : decode cX3_init 74 = .ok (.bipush 12, 2) := by decide +kernel
theorem dX3_init_76 : decode cX3_init 76 = .ok (.newarray .int, 2) := by decide +kernel
theorem dX3_init_78 : decode cX3_init 78 = .ok (.putfield 37, 3) := by decide +kernel
theorem dX3_init_81 : decode cX3_init 81 = .ok (.aload_n 0, 1) := by decide +kernel
theorem dX3_init_82 : decode cX3_init 82 = .ok (.bipush 12, 2) := by decide +kernel
theorem dX3_init_84 : decode cX3_init 84 = .ok (.newarray .int, 2) := by decide +kernel
theorem dX3_init_86 : decode cX3_init 86 = .ok (.putfield 40, 3) := by decide +kernel
theorem dX3_init_89 : decode cX3_init 89 = .ok (.aload_n 0, 1) := by decide +kernel
theorem dX3_init_90 : decode cX3_init 90 = .ok (.bipush 96, 2) := by decide +kernel
theorem dX3_init_92 : decode cX3_init 92 = .ok (.newarray .int, 2) := by decide +kernel
theorem dX3_init_94 : decode cX3_init 94 = .ok (.putfield 43, 3) := by decide +kernel
theorem dX3_init_97 : decode cX3_init 97 = .ok (.aload_n 0, 1) := by decide +kernel
theorem dX3_init_98 : decode cX3_init 98 = .ok (.bipush 48, 2) := by decide +kernel
theorem dX3_init_100 : decode cX3_init 100 = .ok (.newarray .int, 2) := by decide +kernel
theorem dX3_init_102 : decode cX3_init 102 = .ok (.putfield 46, 3) := by decide +kernel
theorem dX3_init_105 : decode cX3_init 105 = .ok (.aload_n 0, 1) := by decide +kernel
theorem dX3_init_106 : decode cX3_init 106 = .ok (.bipush 48, 2) := by decide +kernel
theorem dX3_init_108 : decode cX3_init 108 = .ok (.newarray .int, 2) := by decide +kernel
theorem dX3_init_110 : decode cX3_init 110 = .ok (.putfield 49, 3) := by decide +kernel
theorem dX3_init_113 : decode cX3_init 113 = .ok (.aload_n 0, 1) := by decide +kernel
theorem dX3_init_114 : decode cX3_init 114 = .ok (.sipush 144, 3) := by decide +kernel
theorem dX3_init_117 : decode cX3_init 117 = .ok (.newarray .int, 2) := by decide +kernel
theorem dX3_init_119 : decode cX3_init 119 = .ok (.putfield 52, 3) := by decide +kernel
theorem dX3_init_122 : decode cX3_init 122 = .ok (.aload_n 0, 1) := by decide +kernel
theorem dX3_init_123 : decode cX3_init 123 = .ok (.sipush 276, 3) := by decide +kernel
theorem dX3_init_126 : decode cX3_init 126 = .ok (.newarray .int, 2) := by decide +kernel
theorem dX3_init_128 : decode cX3_init 128 = .ok (.putfield 55, 3) := by decide +kernel
theorem dX3_init_131 : decode cX3_init 131 = .ok (.aload_n 0, 1) := by decide +kernel
theorem dX3_init_132 : decode cX3_init 132 = .ok (.bipush 64, 2) := by decide +kernel
theorem dX3_init_134 : decode cX3_init 134 = .ok (.newarray .int, 2) := by decide +kernel
theorem dX3_init_136 : decode cX3_init 136 = .ok (.putfield 58, 3) := by decide +kernel
theorem dX3_init_139 : decode cX3_init 139 = .ok (.aload_n 0, 1) := by decide +kernel
theorem dX3_init_140 : decode cX3_init 140 = .ok (.bipush 64, 2) := by decide +kernel
theorem dX3_init_142 : decode cX3_init 142 = .ok (.newarray .int, 2) := by decide +kernel
theorem dX3_init_144 : decode cX3_init 144 = .ok (.putfield 61, 3) := by decide +kernel
theorem dX3_init_147 : decode cX3_init 147 = .ok (.aload_n 0, 1) := by decide +kernel
theorem dX3_init_148 : decode cX3_init 148 = .ok (.iconst 4, 1) := by decide +kernel
theorem dX3_init_149 : decode cX3_init 149 = .ok (.newarray .int, 2) := by decide +kernel
theorem dX3_init_151 : decode cX3_init 151 = .ok (.putfield 64, 3) := by decide +kernel
theorem dX3_init_154 : decode cX3_init 154 = .ok (.aload_n 0, 1) := by decide +kernel
theorem dX3_init_155 : decode cX3_init 155 = .ok (.bipush 12, 2) := by decide +kernel
theorem dX3_init_157 : decode cX3_init 157 = .ok (.newarray .int, 2) := by decide +kernel
theorem dX3_init_159 : decode cX3_init 159 = .ok (.putfield 67, 3) := by decide +kernel
theorem dX3_init_162 : decode cX3_init 162 = .ok (.aload_n 0, 1) := by decide +kernel
theorem dX3_init_163 : decode cX3_init 163 = .ok (.iconst 0, 1) := by decide +kernel
theorem dX3_init_164 : decode cX3_init 164 = .ok (.putfield 70, 3) := by decide +kernel
theorem dX3_init_167 : decode cX3_init 167 = .ok (.return_, 1) := by decide +kernel
theorem dX3_no_0 : decode cX3_no 0 = .ok (.aload_n 0, 1) := by decide +kernel
theorem dX3_no_1 : decode cX3_no 1 = .ok (.getfield 7, 3) := by decide +kernel
theorem dX3_no_4 : decode cX3_no 4 = .ok (.iload_n 1, 1) := by decide +kernel
theorem dX3_no_5 : decode cX3_no 5 = .ok (.ineg, 1) := by decide +kernel
theorem dX3_no_6 : decode cX3_no 6 = .ok (.dup2, 1) := by decide +kernel
theorem dX3_no_7 : decode cX3_no 7 = .ok (.iaload, 1) := by decide +kernel
theorem dX3_no_8 : decode cX3_no 8 = .ok (.iconst 1, 1) := by decide +kernel
theorem dX3_no_9 : decode cX3_no 9 = .ok (.iadd, 1) := by decide +kernel
theorem dX3_no_10 : decode cX3_no 10 = .ok (.iastore, 1) := by decide +kernel
theorem dX3_no_11 : decode cX3_no 11 = .ok (.iload_n 1, 1) := by decide +kernel
theorem dX3_no_12 : decode cX3_no 12 = .ok (.ireturn, 1) := by decide +kernel
theorem dX3_lowest_0 : decode cX3_lowest 0 = .ok (.aload_n 0, 1) := by decide +kernel
theorem dX3_lowest_1 : decode cX3_lowest 1 = .ok (.getfield 7, 3) := by decide +kernel
theorem dX3_lowest_4 : decode cX3_lowest 4 = .ok (.iload_n 1, 1) := by decide +kernel
theorem dX3_lowest_5 : decode cX3_lowest 5 = .ok (.ineg, 1) := by decide +kernel
theorem dX3_lowest_6 : decode cX3_lowest 6 = .ok (.dup2, 1) := by decide +kernel
theorem dX3_lowest_7 : decode cX3_lowest 7 = .ok (.iaload, 1) := by decide +kernel
theorem dX3_lowest_8 : decode cX3_lowest 8 = .ok (.iconst 1, 1) := by decide +kernel
theorem dX3_lowest_9 : decode cX3_lowest 9 = .ok (.iadd, 1) := by decide +kernel
theorem dX3_lowest_10 : decode cX3_lowest 10 = .ok (.iastore, 1) := by decide +kernel
theorem dX3_lowest_11 : decode cX3_lowest 11 = .ok (.ldc2_w 74, 3) := by decide +kernel
theorem dX3_lowest_14 : decode cX3_lowest 14 = .ok (.iload_n 1, 1) := by decide +kernel
theorem dX3_lowest_15 : decode cX3_lowest 15 = .ok (.i2l, 1) := by decide +kernel
theorem dX3_lowest_16 : decode cX3_lowest 16 = .ok (.lsub, 1) := by decide +kernel
theorem dX3_lowest_17 : decode cX3_lowest 17 = .ok (.lreturn, 1) := by decide +kernel
theorem dX3_isIn_0 : decode cX3_isIn 0 = .ok (.iload_n 0, 1) := by decide +kernel
theorem dX3_isIn_1 : decode cX3_isIn 1 = .ok (.iload_n 1, 1) := by decide +kernel
theorem dX3_isIn_2 : decode cX3_isIn 2 = .ok (.if_icmp .lt 12, 3) := by decide +kernel
theorem dX3_isIn_5 : decode cX3_isIn 5 = .ok (.iload_n 0, 1) := by decide +kernel
theorem dX3_isIn_6 : decode cX3_isIn 6 = .ok (.iload_n 2, 1) := by decide +kernel
theorem dX3_isIn_7 : decode cX3_isIn 7 = .ok (.if_icmp .gt 7, 3) := by decide +kernel
theorem dX3_isIn_10 : decode cX3_isIn 10 = .ok (.iconst 1, 1) := by decide +kernel
theorem dX3_isIn_11 : decode cX3_isIn 11 = .ok (.goto 4, 3) := by decide +kernel
theorem dX3_isIn_14 : decode cX3_isIn 14 = .ok (.iconst 0, 1) := by decide +kernel
theorem dX3_isIn_15 : decode cX3_isIn 15 = .ok (.ireturn, 1) := by decide +kernel
theorem dX3_bound_0 : decode cX3_bound 0 = .ok (.iload_n 0, 1) := by decide +kernel
theorem dX3_bound_1 : decode cX3_bound 1 = .ok (.iload_n 1, 1) := by decide +kernel
theorem dX3_bound_2 : decode cX3_bound 2 = .ok (.if_icmp .ge 8, 3) := by decide +kernel
theorem dX3_bound_5 : decode cX3_bound 5 = .ok (.bipush (-4), 2) := by decide +kernel
theorem dX3_bound_7 : decode cX3_bound 7 = .ok (.goto 14, 3) := by decide +kernel
theorem dX3_bound_10 : decode cX3_bound 10 = .ok (.iload_n 0, 1) := by decide +kernel
theorem dX3_bound_11 : decode cX3_bound 11 = .ok (.iload_n 2, 1) := by decide +kernel
theorem dX3_bound_12 : decode cX3_bound 12 = .ok (.if_icmp .le 8, 3) := by decide +kernel
theorem dX3_bound_15 : decode cX3_bound 15 = .ok (.bipush (-6), 2) := by decide +kernel
theorem dX3_bound_17 : decode cX3_bound 17 = .ok (.goto 4, 3) := by decide +kernel
theorem dX3_bound_20 : decode cX3_bound 20 = .ok (.iconst 0, 1) := by decide +kernel
theorem dX3_bound_21 : decode cX3_bound 21 = .ok (.ireturn, 1) := by decide +kernel
theorem dX3_has_0 : decode cX3_has 0 = .ok (.iload_n 0, 1) := by decide +kernel
theorem dX3_has_1 : decode cX3_has 1 = .ok (.iload_n 1, 1) := by decide +kernel
theorem dX3_has_2 : decode cX3_has 2 = .ok (.ishr, 1) := by decide +kernel
theorem dX3_has_3 : decode cX3_has 3 = .ok (.iconst 1, 1) := by decide +kernel
theorem dX3_has_4 : decode cX3_has 4 = .ok (.iand, 1) := by decide +kernel
theorem dX3_has_5 : decode cX3_has 5 = .ok (.iconst 1, 1) := by decide +kernel
theorem dX3_has_6 : decode cX3_has 6 = .ok (.if_icmp .ne 7, 3) := by decide +kernel
theorem dX3_has_9 : decode cX3_has 9 = .ok (.iconst 1, 1) := by decide +kernel
theorem dX3_has_10 : decode cX3_has 10 = .ok (.goto 4, 3) := by decide +kernel
theorem dX3_has_13 : decode cX3_has 13 = .ok (.iconst 0, 1) := by decide +kernel
theorem dX3_has_14 : decode cX3_has 14 = .ok (.ireturn, 1) := by decide +kernel
theorem dX3_bits_0 : decode cX3_bits 0 = .ok (.iconst 0, 1) := by decide +kernel
theorem dX3_bits_1 : decode cX3_bits 1 = .ok (.istore_n 1, 1) := by decide +kernel
theorem dX3_bits_2 : decode cX3_bits 2 = .ok (.iconst 0, 1) := by decide +kernel
theorem dX3_bits_3 : decode cX3_bits 3 = .ok (.istore_n 2, 1) := by decide +kernel
theorem dX3_bits_4 : decode cX3_bits 4 = .ok (.iload_n 2, 1) := by decide +kernel
theorem dX3_bits_5 : decode cX3_bits 5 = .ok (.bipush 31, 2) := by decide +kernel
theorem dX3_bits_7 : decode cX3_bits 7 = .ok (.if_icmp .ge 17, 3) := by decide +kernel
theorem dX3_bits_10 : decode cX3_bits 10 = .ok (.iload_n 1, 1) := by decide +kernel
theorem dX3_bits_11 : decode cX3_bits 11 = .ok (.iload_n 0, 1) := by decide +kernel
theorem dX3_bits_12 : decode cX3_bits 12 = .ok (.iload_n 2, 1) := by decide +kernel
theorem dX3_bits_13 : decode cX3_bits 13 = .ok (.ishr, 1) := by decide +kernel
theorem dX3_bits_14 : decode cX3_bits 14 = .ok (.iconst 1, 1) := by decide +kernel
theorem dX3_bits_15 : decode cX3_bits 15 = .ok (.iand, 1) := by decide +kernel
theorem dX3_bits_16 : decode cX3_bits 16 = .ok (.iadd, 1) := by decide +kernel
theorem dX3_bits_17 : decode cX3_bits 17 = .ok (.istore_n 1, 1) := by decide +kernel
theorem dX3_bits_18 : decode cX3_bits 18 = .ok (.iinc 2 1, 3) := by decide +kernel
theorem dX3_bits_21 : decode cX3_bits 21 = .ok (.goto (-17), 3) := by decide +kernel
theorem dX3_bits_24 : decode cX3_bits 24 = .ok (.iload_n 1, 1) := by decide +kernel
theorem dX3_bits_25 : decode cX3_bits 25 = .ok (.ireturn, 1) := by decide +kernel
theorem dX3_isFact_0 : decode cX3_isFact 0 = .ok (.iload_n 0, 1) := by decide +kernel
theorem dX3_isFact_1 : decode cX3_isFact 1 = .ok (.ifCond .lt 13, 3) := by decide +kernel
theorem dX3_isFact_4 : decode cX3_isFact 4 = .ok (.iload_n 0, 1) := by decide +kernel
theorem dX3_isFact_5 : decode cX3_isFact 5 = .ok (.bipush 6, 2) := by decide +kernel
theorem dX3_isFact_7 : decode cX3_isFact 7 = .ok (.if_icmp .ge 7, 3) := by decide +kernel
theorem dX3_isFact_10 : decode cX3_isFact 10 = .ok (.iconst 1, 1) := by decide +kernel
theorem dX3_isFact_11 : decode cX3_isFact 11 = .ok (.goto 4, 3) := by decide +kernel
theorem dX3_isFact_14 : decode cX3_isFact 14 = .ok (.iconst 0, 1) := by decide +kernel
theorem dX3_isFact_15 : decode cX3_isFact 15 = .ok (.ireturn, 1) := by decide +kernel
theorem dX3_isQuestion_0 : decode cX3_isQuestion 0 = .ok (.iload_n 1, 1) := by decide +kernel
theorem dX3_isQuestion_1 : decode cX3_isQuestion 1 = .ok (.ifCond .lt 15, 3) := by decide +kernel
theorem dX3_isQuestion_4 : decode cX3_isQuestion 4 = .ok (.iload_n 1, 1) := by decide +kernel
theorem dX3_isQuestion_5 : decode cX3_isQuestion 5 = .ok (.aload_n 0, 1) := by decide +kernel
theorem dX3_isQuestion_6 : decode cX3_isQuestion 6 = .ok (.getfield 70, 3) := by decide +kernel
theorem dX3_isQuestion_9 : decode cX3_isQuestion 9 = .ok (.if_icmp .ge 7, 3) := by decide +kernel
theorem dX3_isQuestion_12 : decode cX3_isQuestion 12 = .ok (.iconst 1, 1) := by decide +kernel
theorem dX3_isQuestion_13 : decode cX3_isQuestion 13 = .ok (.goto 4, 3) := by decide +kernel
theorem dX3_isQuestion_16 : decode cX3_isQuestion 16 = .ok (.iconst 0, 1) := by decide +kernel
theorem dX3_isQuestion_17 : decode cX3_isQuestion 17 = .ok (.ireturn, 1) := by decide +kernel
theorem dX3_isWitness_0 : decode cX3_isWitness 0 = .ok (.iload_n 1, 1) := by decide +kernel
theorem dX3_isWitness_1 : decode cX3_isWitness 1 = .ok (.ifCond .lt 15, 3) := by decide +kernel
theorem dX3_isWitness_4 : decode cX3_isWitness 4 = .ok (.iload_n 1, 1) := by decide +kernel
theorem dX3_isWitness_5 : decode cX3_isWitness 5 = .ok (.aload_n 0, 1) := by decide +kernel
theorem dX3_isWitness_6 : decode cX3_isWitness 6 = .ok (.getfield 76, 3) := by decide +kernel
theorem dX3_isWitness_9 : decode cX3_isWitness 9 = .ok (.if_icmp .ge 7, 3) := by decide +kernel
theorem dX3_isWitness_12 : decode cX3_isWitness 12 = .ok (.iconst 1, 1) := by decide +kernel
theorem dX3_isWitness_13 : decode cX3_isWitness 13 = .ok (.goto 4, 3) := by decide +kernel
theorem dX3_isWitness_16 : decode cX3_isWitness 16 = .ok (.iconst 0, 1) := by decide +kernel
theorem dX3_isWitness_17 : decode cX3_isWitness 17 = .ok (.ireturn, 1) := by decide +kernel
set_option maxRecDepth 20000 in
theorem ggX3_letter_X3_bound : GoodIn wsX3_letter wsX3_bound := goodIn_r _ [6] (by decide +kernel) (by decide +kernel)
set_option maxRecDepth 20000 in
theorem gX3_letter_X3_bound : GoodIn wsX3_letter (va_wsS RX3 79 yX3_bound wsX3_bound) := goodIn_app (goodIn_of _ (by decide +kernel)) ggX3_letter_X3_bound
set_option maxRecDepth 20000 in
theorem ggX3_letter_X3_no : GoodIn wsX3_letter wsX3_no := goodIn_r _ [10, 11, 12, 13, 14, 15, 16, 17, 18, 19, 20, 21, 22, 23, 24, 25, 26, 27, 28, 29, 30, 31, 32, 33, 34, 35, 36, 37, 38, 39, 40, 41, 42, 43, 44] (by decide +kernel) (by decide +kernel)
set_option maxRecDepth 20000 in
theorem gX3_letter_X3_no : GoodIn wsX3_letter (wsV RX3 86 RX3 yX3_no wsX3_no) := goodIn_app (goodIn_of _ (by decide +kernel)) ggX3_letter_X3_no
theorem dX3_letter_0 : decode cX3_letter 0 = .ok (.iload_n 1, 1) := by decide +kernel
theorem dX3_letter_1 : decode cX3_letter 1 = .ok (.iconst 0, 1) := by decide +kernel
theorem dX3_letter_2 : decode cX3_letter 2 = .ok (.sipush 255, 3) := by decide +kernel
theorem dX3_letter_5 : decode cX3_letter 5 = .ok (.invokestatic 79, 3) := by decide +kernel
theorem dX3_letter_8 : decode cX3_letter 8 = .ok (.istore_n 2, 1) := by decide +kernel
theorem dX3_letter_9 : decode cX3_letter 9 = .ok (.iload_n 2, 1) := by decide +kernel
theorem dX3_letter_10 : decode cX3_letter 10 = .ok (.ifCond .ne 15, 3) := by decide +kernel
theorem dX3_letter_13 : decode cX3_letter 13 = .ok (.aload_n 0, 1) := by decide +kernel
theorem dX3_letter_14 : decode cX3_letter 14 = .ok (.getfield 83, 3) := by decide +kernel
theorem dX3_letter_17 : decode cX3_letter 17 = .ok (.bipush 96, 2) := by decide +kernel
theorem dX3_letter_19 : decode cX3_letter 19 = .ok (.if_icmp .ne 6, 3) := by decide +kernel
theorem dX3_letter_22 : decode cX3_letter 22 = .ok (.bipush (-6), 2) := by decide +kernel
theorem dX3_letter_24 : decode cX3_letter 24 = .ok (.istore_n 2, 1) := by decide +kernel
theorem dX3_letter_25 : decode cX3_letter 25 = .ok (.iload_n 2, 1) := by decide +kernel
theorem dX3_letter_26 : decode cX3_letter 26 = .ok (.ifCond .eq 9, 3) := by decide +kernel
theorem dX3_letter_29 : decode cX3_letter 29 = .ok (.aload_n 0, 1) := by decide +kernel
theorem dX3_letter_30 : decode cX3_letter 30 = .ok (.iload_n 2, 1) := by decide +kernel
theorem dX3_letter_31 : decode cX3_letter 31 = .ok (.invokevirtual 86, 3) := by decide +kernel
theorem dX3_letter_34 : decode cX3_letter 34 = .ok (.ireturn, 1) := by decide +kernel
theorem dX3_letter_35 : decode cX3_letter 35 = .ok (.aload_n 0, 1) := by decide +kernel
theorem dX3_letter_36 : decode cX3_letter 36 = .ok (.getfield 43, 3) := by decide +kernel
theorem dX3_letter_39 : decode cX3_letter 39 = .ok (.aload_n 0, 1) := by decide +kernel
theorem dX3_letter_40 : decode cX3_letter 40 = .ok (.getfield 83, 3) := by decide +kernel
theorem dX3_letter_43 : decode cX3_letter 43 = .ok (.iload_n 1, 1) := by decide +kernel
theorem dX3_letter_44 : decode cX3_letter 44 = .ok (.iastore, 1) := by decide +kernel
theorem dX3_letter_45 : decode cX3_letter 45 = .ok (.aload_n 0, 1) := by decide +kernel
theorem dX3_letter_46 : decode cX3_letter 46 = .ok (.dup, 1) := by decide +kernel
theorem dX3_letter_47 : decode cX3_letter 47 = .ok (.getfield 83, 3) := by decide +kernel
theorem dX3_letter_50 : decode cX3_letter 50 = .ok (.iconst 1, 1) := by decide +kernel
theorem dX3_letter_51 : decode cX3_letter 51 = .ok (.iadd, 1) := by decide +kernel
theorem dX3_letter_52 : decode cX3_letter 52 = .ok (.putfield 83, 3) := by decide +kernel
theorem dX3_letter_55 : decode cX3_letter 55 = .ok (.aload_n 0, 1) := by decide +kernel
theorem dX3_letter_56 : decode cX3_letter 56 = .ok (.getfield 83, 3) := by decide +kernel
theorem dX3_letter_59 : decode cX3_letter 59 = .ok (.ireturn, 1) := by decide +kernel
theorem dX3_next_0 : decode cX3_next 0 = .ok (.aload_n 0, 1) := by decide +kernel
theorem dX3_next_1 : decode cX3_next 1 = .ok (.getfield 90, 3) := by decide +kernel
theorem dX3_next_4 : decode cX3_next 4 = .ok (.aload_n 0, 1) := by decide +kernel
theorem dX3_next_5 : decode cX3_next 5 = .ok (.getfield 83, 3) := by decide +kernel
theorem dX3_next_8 : decode cX3_next 8 = .ok (.if_icmp .ge 15, 3) := by decide +kernel
theorem dX3_next_11 : decode cX3_next 11 = .ok (.aload_n 0, 1) := by decide +kernel
theorem dX3_next_12 : decode cX3_next 12 = .ok (.getfield 43, 3) := by decide +kernel
theorem dX3_next_15 : decode cX3_next 15 = .ok (.aload_n 0, 1) := by decide +kernel
theorem dX3_next_16 : decode cX3_next 16 = .ok (.getfield 90, 3) := by decide +kernel
theorem dX3_next_19 : decode cX3_next 19 = .ok (.iaload, 1) := by decide +kernel
theorem dX3_next_20 : decode cX3_next 20 = .ok (.goto 4, 3) := by decide +kernel
theorem dX3_next_23 : decode cX3_next 23 = .ok (.iconst (-1), 1) := by decide +kernel
theorem dX3_next_24 : decode cX3_next 24 = .ok (.ireturn, 1) := by decide +kernel
set_option maxRecDepth 20000 in
theorem ggX3_readsDigits_X3_next : GoodIn wsX3_readsDigits wsX3_next := goodIn_r _ [7, 1, 8, 9, 13, 14, 15, 16, 17, 18, 19, 20, 21, 22, 23, 24, 25, 26, 27, 28, 29, 30, 31, 32, 33, 34, 35, 36, 37, 38, 39, 40, 41, 42, 43, 44, 45] (by decide +kernel) (by decide +kernel)
set_option maxRecDepth 20000 in
theorem gX3_readsDigits_X3_next : GoodIn wsX3_readsDigits (wsV RX3 93 RX3 yX3_next wsX3_next) := goodIn_app (goodIn_of _ (by decide +kernel)) ggX3_readsDigits_X3_next
set_option maxRecDepth 20000 in
theorem ggX3_readsDigits_X3_isIn : GoodIn wsX3_readsDigits wsX3_isIn := goodIn_r _ [12] (by decide +kernel) (by decide +kernel)
set_option maxRecDepth 20000 in
theorem gX3_readsDigits_X3_isIn : GoodIn wsX3_readsDigits (va_wsS RX3 97 yX3_isIn wsX3_isIn) := goodIn_app (goodIn_of _ (by decide +kernel)) ggX3_readsDigits_X3_isIn
theorem dX3_readsDigits_0 : decode cX3_readsDigits 0 = .ok (.iconst 0, 1) := by decide +kernel
theorem dX3_readsDigits_1 : decode cX3_readsDigits 1 = .ok (.istore_n 3, 1) := by decide +kernel
theorem dX3_readsDigits_2 : decode cX3_readsDigits 2 = .ok (.iconst 0, 1) := by decide +kernel
theorem dX3_readsDigits_3 : decode cX3_readsDigits 3 = .ok (.istore 4, 2) := by decide +kernel
theorem dX3_readsDigits_5 : decode cX3_readsDigits 5 = .ok (.iload 4, 2) := by decide +kernel
theorem dX3_readsDigits_7 : decode cX3_readsDigits 7 = .ok (.iload_n 2, 1) := by decide +kernel
theorem dX3_readsDigits_8 : decode cX3_readsDigits 8 = .ok (.if_icmp .ge 48, 3) := by decide +kernel
theorem dX3_readsDigits_11 : decode cX3_readsDigits 11 = .ok (.aload_n 0, 1) := by decide +kernel
theorem dX3_readsDigits_12 : decode cX3_readsDigits 12 = .ok (.invokevirtual 93, 3) := by decide +kernel
theorem dX3_readsDigits_15 : decode cX3_readsDigits 15 = .ok (.bipush 48, 2) := by decide +kernel
theorem dX3_readsDigits_17 : decode cX3_readsDigits 17 = .ok (.bipush 57, 2) := by decide +kernel
theorem dX3_readsDigits_19 : decode cX3_readsDigits 19 = .ok (.invokestatic 97, 3) := by decide +kernel
theorem dX3_readsDigits_22 : decode cX3_readsDigits 22 = .ok (.ifCond .ne 5, 3) := by decide +kernel
theorem dX3_readsDigits_25 : decode cX3_readsDigits 25 = .ok (.iconst 0, 1) := by decide +kernel
theorem dX3_readsDigits_26 : decode cX3_readsDigits 26 = .ok (.ireturn, 1) := by decide +kernel
theorem dX3_readsDigits_27 : decode cX3_readsDigits 27 = .ok (.bipush 10, 2) := by decide +kernel
theorem dX3_readsDigits_29 : decode cX3_readsDigits 29 = .ok (.iload_n 3, 1) := by decide +kernel
theorem dX3_readsDigits_30 : decode cX3_readsDigits 30 = .ok (.imul, 1) := by decide +kernel
theorem dX3_readsDigits_31 : decode cX3_readsDigits 31 = .ok (.aload_n 0, 1) := by decide +kernel
theorem dX3_readsDigits_32 : decode cX3_readsDigits 32 = .ok (.invokevirtual 93, 3) := by decide +kernel
theorem dX3_readsDigits_35 : decode cX3_readsDigits 35 = .ok (.iadd, 1) := by decide +kernel
theorem dX3_readsDigits_36 : decode cX3_readsDigits 36 = .ok (.bipush 48, 2) := by decide +kernel
theorem dX3_readsDigits_38 : decode cX3_readsDigits 38 = .ok (.isub, 1) := by decide +kernel
theorem dX3_readsDigits_39 : decode cX3_readsDigits 39 = .ok (.istore_n 3, 1) := by decide +kernel
theorem dX3_readsDigits_40 : decode cX3_readsDigits 40 = .ok (.aload_n 0, 1) := by decide +kernel
theorem dX3_readsDigits_41 : decode cX3_readsDigits 41 = .ok (.dup, 1) := by decide +kernel
theorem dX3_readsDigits_42 : decode cX3_readsDigits 42 = .ok (.getfield 90, 3) := by decide +kernel
theorem dX3_readsDigits_45 : decode cX3_readsDigits 45 = .ok (.iconst 1, 1) := by decide +kernel
theorem dX3_readsDigits_46 : decode cX3_readsDigits 46 = .ok (.iadd, 1) := by decide +kernel
theorem dX3_readsDigits_47 : decode cX3_readsDigits 47 = .ok (.putfield 90, 3) := by decide +kernel
theorem dX3_readsDigits_50 : decode cX3_readsDigits 50 = .ok (.iinc 4 1, 3) := by decide +kernel
theorem dX3_readsDigits_53 : decode cX3_readsDigits 53 = .ok (.goto (-48), 3) := by decide +kernel
theorem dX3_readsDigits_56 : decode cX3_readsDigits 56 = .ok (.aload_n 0, 1) := by decide +kernel
theorem dX3_readsDigits_57 : decode cX3_readsDigits 57 = .ok (.getfield 52, 3) := by decide +kernel
theorem dX3_readsDigits_60 : decode cX3_readsDigits 60 = .ok (.iload_n 1, 1) := by decide +kernel
theorem dX3_readsDigits_61 : decode cX3_readsDigits 61 = .ok (.iload_n 3, 1) := by decide +kernel
theorem dX3_readsDigits_62 : decode cX3_readsDigits 62 = .ok (.iastore, 1) := by decide +kernel
theorem dX3_readsDigits_63 : decode cX3_readsDigits 63 = .ok (.iconst 1, 1) := by decide +kernel
theorem dX3_readsDigits_64 : decode cX3_readsDigits 64 = .ok (.ireturn, 1) := by decide +kernel
theorem dX3_kindOf_0 : decode cX3_kindOf 0 = .ok (.iload_n 0, 1) := by decide +kernel
theorem dX3_kindOf_1 : decode cX3_kindOf 1 = .ok (.bipush 119, 2) := by decide +kernel
theorem dX3_kindOf_3 : decode cX3_kindOf 3 = .ok (.if_icmp .ne 7, 3) := by decide +kernel
theorem dX3_kindOf_6 : decode cX3_kindOf 6 = .ok (.iconst 0, 1) := by decide +kernel
theorem dX3_kindOf_7 : decode cX3_kindOf 7 = .ok (.goto 54, 3) := by decide +kernel
theorem dX3_kindOf_10 : decode cX3_kindOf 10 = .ok (.iload_n 0, 1) := by decide +kernel
theorem dX3_kindOf_11 : decode cX3_kindOf 11 = .ok (.bipush 108, 2) := by decide +kernel
theorem dX3_kindOf_13 : decode cX3_kindOf 13 = .ok (.if_icmp .ne 7, 3) := by decide +kernel
theorem dX3_kindOf_16 : decode cX3_kindOf 16 = .ok (.iconst 1, 1) := by decide +kernel
theorem dX3_kindOf_17 : decode cX3_kindOf 17 = .ok (.goto 44, 3) := by decide +kernel
theorem dX3_kindOf_20 : decode cX3_kindOf 20 = .ok (.iload_n 0, 1) := by decide +kernel
theorem dX3_kindOf_21 : decode cX3_kindOf 21 = .ok (.bipush 98, 2) := by decide +kernel
theorem dX3_kindOf_23 : decode cX3_kindOf 23 = .ok (.if_icmp .ne 7, 3) := by decide +kernel
theorem dX3_kindOf_26 : decode cX3_kindOf 26 = .ok (.iconst 2, 1) := by decide +kernel
theorem dX3_kindOf_27 : decode cX3_kindOf 27 = .ok (.goto 34, 3) := by decide +kernel
theorem dX3_kindOf_30 : decode cX3_kindOf 30 = .ok (.iload_n 0, 1) := by decide +kernel
theorem dX3_kindOf_31 : decode cX3_kindOf 31 = .ok (.bipush 102, 2) := by decide +kernel
theorem dX3_kindOf_33 : decode cX3_kindOf 33 = .ok (.if_icmp .ne 7, 3) := by decide +kernel
theorem dX3_kindOf_36 : decode cX3_kindOf 36 = .ok (.iconst 3, 1) := by decide +kernel
theorem dX3_kindOf_37 : decode cX3_kindOf 37 = .ok (.goto 24, 3) := by decide +kernel
theorem dX3_kindOf_40 : decode cX3_kindOf 40 = .ok (.iload_n 0, 1) := by decide +kernel
theorem dX3_kindOf_41 : decode cX3_kindOf 41 = .ok (.bipush 114, 2) := by decide +kernel
theorem dX3_kindOf_43 : decode cX3_kindOf 43 = .ok (.if_icmp .ne 7, 3) := by decide +kernel
theorem dX3_kindOf_46 : decode cX3_kindOf 46 = .ok (.iconst 4, 1) := by decide +kernel
theorem dX3_kindOf_47 : decode cX3_kindOf 47 = .ok (.goto 14, 3) := by decide +kernel
theorem dX3_kindOf_50 : decode cX3_kindOf 50 = .ok (.iload_n 0, 1) := by decide +kernel
theorem dX3_kindOf_51 : decode cX3_kindOf 51 = .ok (.bipush 99, 2) := by decide +kernel
theorem dX3_kindOf_53 : decode cX3_kindOf 53 = .ok (.if_icmp .ne 7, 3) := by decide +kernel
theorem dX3_kindOf_56 : decode cX3_kindOf 56 = .ok (.iconst 5, 1) := by decide +kernel
theorem dX3_kindOf_57 : decode cX3_kindOf 57 = .ok (.goto 4, 3) := by decide +kernel
theorem dX3_kindOf_60 : decode cX3_kindOf 60 = .ok (.iconst (-1), 1) := by decide +kernel
theorem dX3_kindOf_61 : decode cX3_kindOf 61 = .ok (.ireturn, 1) := by decide +kernel
set_option maxRecDepth 20000 in
theorem ggX3_readsWitness_X3_next : GoodIn wsX3_readsWitness wsX3_next := goodIn_r _ [7, 2, 8, 9, 20, 21, 22, 23, 24, 25, 26, 27, 28, 29, 30, 31, 32, 33, 34, 35, 36, 37, 38, 39, 40, 41, 42, 43, 44, 45, 46, 47, 48, 49, 50, 51, 52] (by decide +kernel) (by decide +kernel)
set_option maxRecDepth 20000 in
theorem gX3_readsWitness_X3_next : GoodIn wsX3_readsWitness (wsV RX3 93 RX3 yX3_next wsX3_next) := goodIn_app (goodIn_of _ (by decide +kernel)) ggX3_readsWitness_X3_next
set_option maxRecDepth 20000 in
theorem ggX3_readsWitness_X3_kindOf : GoodIn wsX3_readsWitness wsX3_kindOf := goodIn_r _ [12] (by decide +kernel) (by decide +kernel)
set_option maxRecDepth 20000 in
theorem gX3_readsWitness_X3_kindOf : GoodIn wsX3_readsWitness (va_wsS RX3 101 yX3_kindOf wsX3_kindOf) := goodIn_app (goodIn_of _ (by decide +kernel)) ggX3_readsWitness_X3_kindOf
set_option maxRecDepth 20000 in
theorem ggX3_readsWitness_X3_readsDigits : GoodIn wsX3_readsWitness wsX3_readsDigits := goodIn_r _ [16, 2, 1, 3, 4, 5, 6, 7, 8, 9, 17, 18, 19, 20, 21, 22, 23, 24, 25, 26, 27, 28, 29, 30, 31, 32, 33, 34, 35, 36, 37, 38, 39, 40, 41, 42, 43, 44, 45, 46, 47, 48, 49, 50, 51, 52] (by decide +kernel) (by decide +kernel)
set_option maxRecDepth 20000 in
theorem gX3_readsWitness_X3_readsDigits : GoodIn wsX3_readsWitness (wsV RX3 104 RX3 yX3_readsDigits wsX3_readsDigits) := goodIn_app (goodIn_of _ (by decide +kernel)) ggX3_readsWitness_X3_readsDigits
theorem dX3_readsWitness_0 : decode cX3_readsWitness 0 = .ok (.aload_n 0, 1) := by decide +kernel
theorem dX3_readsWitness_1 : decode cX3_readsWitness 1 = .ok (.getfield 52, 3) := by decide +kernel
theorem dX3_readsWitness_4 : decode cX3_readsWitness 4 = .ok (.iload_n 1, 1) := by decide +kernel
theorem dX3_readsWitness_5 : decode cX3_readsWitness 5 = .ok (.aload_n 0, 1) := by decide +kernel
theorem dX3_readsWitness_6 : decode cX3_readsWitness 6 = .ok (.invokevirtual 93, 3) := by decide +kernel
theorem dX3_readsWitness_9 : decode cX3_readsWitness 9 = .ok (.invokestatic 101, 3) := by decide +kernel
theorem dX3_readsWitness_12 : decode cX3_readsWitness 12 = .ok (.iastore, 1) := by decide +kernel
theorem dX3_readsWitness_13 : decode cX3_readsWitness 13 = .ok (.aload_n 0, 1) := by decide +kernel
theorem dX3_readsWitness_14 : decode cX3_readsWitness 14 = .ok (.getfield 52, 3) := by decide +kernel
theorem dX3_readsWitness_17 : decode cX3_readsWitness 17 = .ok (.iload_n 1, 1) := by decide +kernel
theorem dX3_readsWitness_18 : decode cX3_readsWitness 18 = .ok (.iaload, 1) := by decide +kernel
theorem dX3_readsWitness_19 : decode cX3_readsWitness 19 = .ok (.ifCond .ge 5, 3) := by decide +kernel
theorem dX3_readsWitness_22 : decode cX3_readsWitness 22 = .ok (.iconst 0, 1) := by decide +kernel
theorem dX3_readsWitness_23 : decode cX3_readsWitness 23 = .ok (.ireturn, 1) := by decide +kernel
theorem dX3_readsWitness_24 : decode cX3_readsWitness 24 = .ok (.aload_n 0, 1) := by decide +kernel
theorem dX3_readsWitness_25 : decode cX3_readsWitness 25 = .ok (.dup, 1) := by decide +kernel
theorem dX3_readsWitness_26 : decode cX3_readsWitness 26 = .ok (.getfield 90, 3) := by decide +kernel
theorem dX3_readsWitness_29 : decode cX3_readsWitness 29 = .ok (.iconst 1, 1) := by decide +kernel
theorem dX3_readsWitness_30 : decode cX3_readsWitness 30 = .ok (.iadd, 1) := by decide +kernel
theorem dX3_readsWitness_31 : decode cX3_readsWitness 31 = .ok (.putfield 90, 3) := by decide +kernel
theorem dX3_readsWitness_34 : decode cX3_readsWitness 34 = .ok (.aload_n 0, 1) := by decide +kernel
theorem dX3_readsWitness_35 : decode cX3_readsWitness 35 = .ok (.iload_n 1, 1) := by decide +kernel
theorem dX3_readsWitness_36 : decode cX3_readsWitness 36 = .ok (.iconst 1, 1) := by decide +kernel
theorem dX3_readsWitness_37 : decode cX3_readsWitness 37 = .ok (.iadd, 1) := by decide +kernel
theorem dX3_readsWitness_38 : decode cX3_readsWitness 38 = .ok (.iconst 1, 1) := by decide +kernel
theorem dX3_readsWitness_39 : decode cX3_readsWitness 39 = .ok (.invokevirtual 104, 3) := by decide +kernel
theorem dX3_readsWitness_42 : decode cX3_readsWitness 42 = .ok (.ifCond .eq 18, 3) := by decide +kernel
theorem dX3_readsWitness_45 : decode cX3_readsWitness 45 = .ok (.aload_n 0, 1) := by decide +kernel
theorem dX3_readsWitness_46 : decode cX3_readsWitness 46 = .ok (.iload_n 1, 1) := by decide +kernel
theorem dX3_readsWitness_47 : decode cX3_readsWitness 47 = .ok (.iconst 2, 1) := by decide +kernel
theorem dX3_readsWitness_48 : decode cX3_readsWitness 48 = .ok (.iadd, 1) := by decide +kernel
theorem dX3_readsWitness_49 : decode cX3_readsWitness 49 = .ok (.iconst 2, 1) := by decide +kernel
theorem dX3_readsWitness_50 : decode cX3_readsWitness 50 = .ok (.invokevirtual 104, 3) := by decide +kernel
theorem dX3_readsWitness_53 : decode cX3_readsWitness 53 = .ok (.ifCond .eq 7, 3) := by decide +kernel
theorem dX3_readsWitness_56 : decode cX3_readsWitness 56 = .ok (.iconst 1, 1) := by decide +kernel
theorem dX3_readsWitness_57 : decode cX3_readsWitness 57 = .ok (.goto 4, 3) := by decide +kernel
theorem dX3_readsWitness_60 : decode cX3_readsWitness 60 = .ok (.iconst 0, 1) := by decide +kernel
theorem dX3_readsWitness_61 : decode cX3_readsWitness 61 = .ok (.ireturn, 1) := by decide +kernel
set_option maxRecDepth 20000 in
theorem ggX3_readsAll_X3_readsDigits : GoodIn wsX3_readsAll wsX3_readsDigits := goodIn_r _ [5, 6, 7, 8, 9, 10, 4, 11, 12, 13, 14, 15, 16, 24, 25, 26, 27, 28, 29, 30, 31, 32, 33, 34, 35, 36, 37, 38, 39, 40, 41, 42, 43, 44, 45, 46, 47, 48, 49, 50, 51, 52, 53, 54, 55, 56] (by decide +kernel) (by decide +kernel)
set_option maxRecDepth 20000 in
theorem gX3_readsAll_X3_readsDigits : GoodIn wsX3_readsAll (wsV RX3 104 RX3 yX3_readsDigits wsX3_readsDigits) := goodIn_app (goodIn_of _ (by decide +kernel)) ggX3_readsAll_X3_readsDigits
set_option maxRecDepth 20000 in
theorem ggX3_readsAll_X3_readsWitness : GoodIn wsX3_readsAll wsX3_readsWitness := goodIn_r _ [20, 7, 6, 8, 9, 10, 4, 11, 12, 13, 21, 22, 23, 1, 2, 3, 5, 14, 15, 16, 24, 25, 26, 27, 28, 29, 30, 31, 32, 33, 34, 35, 36, 37, 38, 39, 40, 41, 42, 43, 44, 45, 46, 47, 48, 49, 50, 51, 52, 53, 54, 55, 56] (by decide +kernel) (by decide +kernel)
set_option maxRecDepth 20000 in
theorem gX3_readsAll_X3_readsWitness : GoodIn wsX3_readsAll (wsV RX3 108 RX3 yX3_readsWitness wsX3_readsWitness) := goodIn_app (goodIn_of _ (by decide +kernel)) ggX3_readsAll_X3_readsWitness
theorem dX3_readsAll_0 : decode cX3_readsAll 0 = .ok (.iload_n 1, 1) := by decide +kernel
theorem dX3_readsAll_1 : decode cX3_readsAll 1 = .ok (.lookupswitch 95 #[(102, 43), (110, 93), (113, 50), (119, 87)], 43) := by decide +kernel
theorem dX3_readsAll_44 : decode cX3_readsAll 44 = .ok (.aload_n 0, 1) := by decide +kernel
theorem dX3_readsAll_45 : decode cX3_readsAll 45 = .ok (.iload_n 2, 1) := by decide +kernel
theorem dX3_readsAll_46 : decode cX3_readsAll 46 = .ok (.iconst 1, 1) := by decide +kernel
theorem dX3_readsAll_47 : decode cX3_readsAll 47 = .ok (.invokevirtual 104, 3) := by decide +kernel
theorem dX3_readsAll_50 : decode cX3_readsAll 50 = .ok (.ireturn, 1) := by decide +kernel
theorem dX3_readsAll_51 : decode cX3_readsAll 51 = .ok (.aload_n 0, 1) := by decide +kernel
theorem dX3_readsAll_52 : decode cX3_readsAll 52 = .ok (.iload_n 2, 1) := by decide +kernel
theorem dX3_readsAll_53 : decode cX3_readsAll 53 = .ok (.iconst 1, 1) := by decide +kernel
theorem dX3_readsAll_54 : decode cX3_readsAll 54 = .ok (.invokevirtual 104, 3) := by decide +kernel
theorem dX3_readsAll_57 : decode cX3_readsAll 57 = .ok (.ifCond .eq 29, 3) := by decide +kernel
theorem dX3_readsAll_60 : decode cX3_readsAll 60 = .ok (.aload_n 0, 1) := by decide +kernel
theorem dX3_readsAll_61 : decode cX3_readsAll 61 = .ok (.iload_n 2, 1) := by decide +kernel
theorem dX3_readsAll_62 : decode cX3_readsAll 62 = .ok (.iconst 1, 1) := by decide +kernel
theorem dX3_readsAll_63 : decode cX3_readsAll 63 = .ok (.iadd, 1) := by decide +kernel
theorem dX3_readsAll_64 : decode cX3_readsAll 64 = .ok (.iconst 1, 1) := by decide +kernel
theorem dX3_readsAll_65 : decode cX3_readsAll 65 = .ok (.invokevirtual 104, 3) := by decide +kernel
theorem dX3_readsAll_68 : decode cX3_readsAll 68 = .ok (.ifCond .eq 18, 3) := by decide +kernel
theorem dX3_readsAll_71 : decode cX3_readsAll 71 = .ok (.aload_n 0, 1) := by decide +kernel
theorem dX3_readsAll_72 : decode cX3_readsAll 72 = .ok (.iload_n 2, 1) := by decide +kernel
theorem dX3_readsAll_73 : decode cX3_readsAll 73 = .ok (.iconst 2, 1) := by decide +kernel
theorem dX3_readsAll_74 : decode cX3_readsAll 74 = .ok (.iadd, 1) := by decide +kernel
theorem dX3_readsAll_75 : decode cX3_readsAll 75 = .ok (.iconst 1, 1) := by decide +kernel
theorem dX3_readsAll_76 : decode cX3_readsAll 76 = .ok (.invokevirtual 104, 3) := by decide +kernel
theorem dX3_readsAll_79 : decode cX3_readsAll 79 = .ok (.ifCond .eq 7, 3) := by decide +kernel
theorem dX3_readsAll_82 : decode cX3_readsAll 82 = .ok (.iconst 1, 1) := by decide +kernel
theorem dX3_readsAll_83 : decode cX3_readsAll 83 = .ok (.goto 4, 3) := by decide +kernel
theorem dX3_readsAll_86 : decode cX3_readsAll 86 = .ok (.iconst 0, 1) := by decide +kernel
theorem dX3_readsAll_87 : decode cX3_readsAll 87 = .ok (.ireturn, 1) := by decide +kernel
theorem dX3_readsAll_88 : decode cX3_readsAll 88 = .ok (.aload_n 0, 1) := by decide +kernel
theorem dX3_readsAll_89 : decode cX3_readsAll 89 = .ok (.iload_n 2, 1) := by decide +kernel
theorem dX3_readsAll_90 : decode cX3_readsAll 90 = .ok (.invokevirtual 108, 3) := by decide +kernel
theorem dX3_readsAll_93 : decode cX3_readsAll 93 = .ok (.ireturn, 1) := by decide +kernel
theorem dX3_readsAll_94 : decode cX3_readsAll 94 = .ok (.iconst 1, 1) := by decide +kernel
theorem dX3_readsAll_95 : decode cX3_readsAll 95 = .ok (.ireturn, 1) := by decide +kernel
theorem dX3_readsAll_96 : decode cX3_readsAll 96 = .ok (.aload_n 0, 1) := by decide +kernel
theorem dX3_readsAll_97 : decode cX3_readsAll 97 = .ok (.iload_n 2, 1) := by decide +kernel
theorem dX3_readsAll_98 : decode cX3_readsAll 98 = .ok (.iconst 1, 1) := by decide +kernel
theorem dX3_readsAll_99 : decode cX3_readsAll 99 = .ok (.invokevirtual 104, 3) := by decide +kernel
theorem dX3_readsAll_102 : decode cX3_readsAll 102 = .ok (.ifCond .eq 18, 3) := by decide +kernel
theorem dX3_readsAll_105 : decode cX3_readsAll 105 = .ok (.aload_n 0, 1) := by decide +kernel
theorem dX3_readsAll_106 : decode cX3_readsAll 106 = .ok (.iload_n 2, 1) := by decide +kernel
theorem dX3_readsAll_107 : decode cX3_readsAll 107 = .ok (.iconst 1, 1) := by decide +kernel
theorem dX3_readsAll_108 : decode cX3_readsAll 108 = .ok (.iadd, 1) := by decide +kernel
theorem dX3_readsAll_109 : decode cX3_readsAll 109 = .ok (.iconst 1, 1) := by decide +kernel
theorem dX3_readsAll_110 : decode cX3_readsAll 110 = .ok (.invokevirtual 104, 3) := by decide +kernel
theorem dX3_readsAll_113 : decode cX3_readsAll 113 = .ok (.ifCond .eq 7, 3) := by decide +kernel
theorem dX3_readsAll_116 : decode cX3_readsAll 116 = .ok (.iconst 1, 1) := by decide +kernel
theorem dX3_readsAll_117 : decode cX3_readsAll 117 = .ok (.goto 4, 3) := by decide +kernel
theorem dX3_readsAll_120 : decode cX3_readsAll 120 = .ok (.iconst 0, 1) := by decide +kernel
theorem dX3_readsAll_121 : decode cX3_readsAll 121 = .ok (.ireturn, 1) := by decide +kernel
set_option maxRecDepth 20000 in
theorem ggX3_statement_X3_next : GoodIn wsX3_statement wsX3_next := goodIn_r _ [9, 4, 10, 11, 31, 32, 33, 34, 35, 36, 37, 38, 39, 40, 41, 42, 43, 44, 45, 46, 47, 48, 49, 50, 51, 52, 53, 54, 55, 56, 57, 58, 59, 60, 61, 62, 63] (by decide +kernel) (by decide +kernel)
set_option maxRecDepth 20000 in
theorem gX3_statement_X3_next : GoodIn wsX3_statement (wsV RX3 93 RX3 yX3_next wsX3_next) := goodIn_app (goodIn_of _ (by decide +kernel)) ggX3_statement_X3_next
set_option maxRecDepth 20000 in
theorem ggX3_statement_X3_readsAll : GoodIn wsX3_statement wsX3_readsAll := goodIn_r _ [15, 16, 17, 18, 8, 19, 4, 20, 5, 6, 7, 9, 10, 11, 21, 22, 23, 24, 25, 26, 27, 28, 29, 30, 31, 32, 33, 34, 35, 36, 37, 38, 39, 40, 41, 42, 43, 44, 45, 46, 47, 48, 49, 50, 51, 52, 53, 54, 55, 56, 57, 58, 59, 60, 61, 62, 63] (by decide +kernel) (by decide +kernel)
set_option maxRecDepth 20000 in
theorem gX3_statement_X3_readsAll : GoodIn wsX3_statement (wsV RX3 115 RX3 yX3_readsAll wsX3_readsAll) := goodIn_app (goodIn_of _ (by decide +kernel)) ggX3_statement_X3_readsAll
theorem dX3_statement_0 : decode cX3_statement 0 = .ok (.aload_n 0, 1) := by decide +kernel
theorem dX3_statement_1 : decode cX3_statement 1 = .ok (.invokevirtual 93, 3) := by decide +kernel
theorem dX3_statement_4 : decode cX3_statement 4 = .ok (.istore_n 1, 1) := by decide +kernel
theorem dX3_statement_5 : decode cX3_statement 5 = .ok (.iload_n 1, 1) := by decide +kernel
theorem dX3_statement_6 : decode cX3_statement 6 = .ok (.bipush 102, 2) := by decide +kernel
theorem dX3_statement_8 : decode cX3_statement 8 = .ok (.if_icmp .eq 35, 3) := by decide +kernel
theorem dX3_statement_11 : decode cX3_statement 11 = .ok (.iload_n 1, 1) := by decide +kernel
theorem dX3_statement_12 : decode cX3_statement 12 = .ok (.bipush 113, 2) := by decide +kernel
theorem dX3_statement_14 : decode cX3_statement 14 = .ok (.if_icmp .eq 29, 3) := by decide +kernel
theorem dX3_statement_17 : decode cX3_statement 17 = .ok (.iload_n 1, 1) := by decide +kernel
theorem dX3_statement_18 : decode cX3_statement 18 = .ok (.bipush 119, 2) := by decide +kernel
theorem dX3_statement_20 : decode cX3_statement 20 = .ok (.if_icmp .eq 23, 3) := by decide +kernel
theorem dX3_statement_23 : decode cX3_statement 23 = .ok (.iload_n 1, 1) := by decide +kernel
theorem dX3_statement_24 : decode cX3_statement 24 = .ok (.bipush 107, 2) := by decide +kernel
theorem dX3_statement_26 : decode cX3_statement 26 = .ok (.if_icmp .eq 17, 3) := by decide +kernel
theorem dX3_statement_29 : decode cX3_statement 29 = .ok (.iload_n 1, 1) := by decide +kernel
theorem dX3_statement_30 : decode cX3_statement 30 = .ok (.bipush 97, 2) := by decide +kernel
theorem dX3_statement_32 : decode cX3_statement 32 = .ok (.if_icmp .eq 11, 3) := by decide +kernel
theorem dX3_statement_35 : decode cX3_statement 35 = .ok (.iload_n 1, 1) := by decide +kernel
theorem dX3_statement_36 : decode cX3_statement 36 = .ok (.bipush 110, 2) := by decide +kernel
theorem dX3_statement_38 : decode cX3_statement 38 = .ok (.if_icmp .eq 5, 3) := by decide +kernel
theorem dX3_statement_41 : decode cX3_statement 41 = .ok (.iconst 0, 1) := by decide +kernel
theorem dX3_statement_42 : decode cX3_statement 42 = .ok (.ireturn, 1) := by decide +kernel
theorem dX3_statement_43 : decode cX3_statement 43 = .ok (.aload_n 0, 1) := by decide +kernel
theorem dX3_statement_44 : decode cX3_statement 44 = .ok (.getfield 46, 3) := by decide +kernel
theorem dX3_statement_47 : decode cX3_statement 47 = .ok (.aload_n 0, 1) := by decide +kernel
theorem dX3_statement_48 : decode cX3_statement 48 = .ok (.getfield 112, 3) := by decide +kernel
theorem dX3_statement_51 : decode cX3_statement 51 = .ok (.iload_n 1, 1) := by decide +kernel
theorem dX3_statement_52 : decode cX3_statement 52 = .ok (.iastore, 1) := by decide +kernel
theorem dX3_statement_53 : decode cX3_statement 53 = .ok (.aload_n 0, 1) := by decide +kernel
theorem dX3_statement_54 : decode cX3_statement 54 = .ok (.getfield 49, 3) := by decide +kernel
theorem dX3_statement_57 : decode cX3_statement 57 = .ok (.aload_n 0, 1) := by decide +kernel
theorem dX3_statement_58 : decode cX3_statement 58 = .ok (.getfield 112, 3) := by decide +kernel
theorem dX3_statement_61 : decode cX3_statement 61 = .ok (.aload_n 0, 1) := by decide +kernel
theorem dX3_statement_62 : decode cX3_statement 62 = .ok (.getfield 90, 3) := by decide +kernel
theorem dX3_statement_65 : decode cX3_statement 65 = .ok (.iastore, 1) := by decide +kernel
theorem dX3_statement_66 : decode cX3_statement 66 = .ok (.aload_n 0, 1) := by decide +kernel
theorem dX3_statement_67 : decode cX3_statement 67 = .ok (.dup, 1) := by decide +kernel
theorem dX3_statement_68 : decode cX3_statement 68 = .ok (.getfield 90, 3) := by decide +kernel
theorem dX3_statement_71 : decode cX3_statement 71 = .ok (.iconst 1, 1) := by decide +kernel
theorem dX3_statement_72 : decode cX3_statement 72 = .ok (.iadd, 1) := by decide +kernel
theorem dX3_statement_73 : decode cX3_statement 73 = .ok (.putfield 90, 3) := by decide +kernel
theorem dX3_statement_76 : decode cX3_statement 76 = .ok (.aload_n 0, 1) := by decide +kernel
theorem dX3_statement_77 : decode cX3_statement 77 = .ok (.iload_n 1, 1) := by decide +kernel
theorem dX3_statement_78 : decode cX3_statement 78 = .ok (.iconst 3, 1) := by decide +kernel
theorem dX3_statement_79 : decode cX3_statement 79 = .ok (.aload_n 0, 1) := by decide +kernel
theorem dX3_statement_80 : decode cX3_statement 80 = .ok (.getfield 112, 3) := by decide +kernel
theorem dX3_statement_83 : decode cX3_statement 83 = .ok (.imul, 1) := by decide +kernel
theorem dX3_statement_84 : decode cX3_statement 84 = .ok (.invokevirtual 115, 3) := by decide +kernel
theorem dX3_statement_87 : decode cX3_statement 87 = .ok (.ifCond .eq 12, 3) := by decide +kernel
theorem dX3_statement_90 : decode cX3_statement 90 = .ok (.aload_n 0, 1) := by decide +kernel
theorem dX3_statement_91 : decode cX3_statement 91 = .ok (.invokevirtual 93, 3) := by decide +kernel
theorem dX3_statement_94 : decode cX3_statement 94 = .ok (.bipush 59, 2) := by decide +kernel
theorem dX3_statement_96 : decode cX3_statement 96 = .ok (.if_icmp .eq 5, 3) := by decide +kernel
theorem dX3_statement_99 : decode cX3_statement 99 = .ok (.iconst 0, 1) := by decide +kernel
theorem dX3_statement_100 : decode cX3_statement 100 = .ok (.ireturn, 1) := by decide +kernel
theorem dX3_statement_101 : decode cX3_statement 101 = .ok (.aload_n 0, 1) := by decide +kernel
theorem dX3_statement_102 : decode cX3_statement 102 = .ok (.dup, 1) := by decide +kernel
theorem dX3_statement_103 : decode cX3_statement 103 = .ok (.getfield 90, 3) := by decide +kernel
theorem dX3_statement_106 : decode cX3_statement 106 = .ok (.iconst 1, 1) := by decide +kernel
theorem dX3_statement_107 : decode cX3_statement 107 = .ok (.iadd, 1) := by decide +kernel
theorem dX3_statement_108 : decode cX3_statement 108 = .ok (.putfield 90, 3) := by decide +kernel
theorem dX3_statement_111 : decode cX3_statement 111 = .ok (.iconst 1, 1) := by decide +kernel
theorem dX3_statement_112 : decode cX3_statement 112 = .ok (.ireturn, 1) := by decide +kernel
set_option maxRecDepth 20000 in
theorem ggX3_comesQuestion_X3_isFact : GoodIn wsX3_comesQuestion wsX3_isFact := goodIn_r _ [9] (by decide +kernel) (by decide +kernel)
set_option maxRecDepth 20000 in
theorem gX3_comesQuestion_X3_isFact : GoodIn wsX3_comesQuestion (va_wsS RX3 118 yX3_isFact wsX3_isFact) := goodIn_app (goodIn_of _ (by decide +kernel)) ggX3_comesQuestion_X3_isFact
theorem dX3_comesQuestion_0 : decode cX3_comesQuestion 0 = .ok (.aload_n 0, 1) := by decide +kernel
theorem dX3_comesQuestion_1 : decode cX3_comesQuestion 1 = .ok (.getfield 52, 3) := by decide +kernel
theorem dX3_comesQuestion_4 : decode cX3_comesQuestion 4 = .ok (.iload_n 1, 1) := by decide +kernel
theorem dX3_comesQuestion_5 : decode cX3_comesQuestion 5 = .ok (.iaload, 1) := by decide +kernel
theorem dX3_comesQuestion_6 : decode cX3_comesQuestion 6 = .ok (.iconst 4, 1) := by decide +kernel
theorem dX3_comesQuestion_7 : decode cX3_comesQuestion 7 = .ok (.if_icmp .gt 40, 3) := by decide +kernel
theorem dX3_comesQuestion_10 : decode cX3_comesQuestion 10 = .ok (.aload_n 0, 1) := by decide +kernel
theorem dX3_comesQuestion_11 : decode cX3_comesQuestion 11 = .ok (.getfield 52, 3) := by decide +kernel
theorem dX3_comesQuestion_14 : decode cX3_comesQuestion 14 = .ok (.iload_n 1, 1) := by decide +kernel
theorem dX3_comesQuestion_15 : decode cX3_comesQuestion 15 = .ok (.iconst 1, 1) := by decide +kernel
theorem dX3_comesQuestion_16 : decode cX3_comesQuestion 16 = .ok (.iadd, 1) := by decide +kernel
theorem dX3_comesQuestion_17 : decode cX3_comesQuestion 17 = .ok (.iaload, 1) := by decide +kernel
theorem dX3_comesQuestion_18 : decode cX3_comesQuestion 18 = .ok (.invokestatic 118, 3) := by decide +kernel
theorem dX3_comesQuestion_21 : decode cX3_comesQuestion 21 = .ok (.ifCond .eq 26, 3) := by decide +kernel
theorem dX3_comesQuestion_24 : decode cX3_comesQuestion 24 = .ok (.aload_n 0, 1) := by decide +kernel
theorem dX3_comesQuestion_25 : decode cX3_comesQuestion 25 = .ok (.getfield 52, 3) := by decide +kernel
theorem dX3_comesQuestion_28 : decode cX3_comesQuestion 28 = .ok (.iload_n 1, 1) := by decide +kernel
theorem dX3_comesQuestion_29 : decode cX3_comesQuestion 29 = .ok (.iconst 2, 1) := by decide +kernel
theorem dX3_comesQuestion_30 : decode cX3_comesQuestion 30 = .ok (.iadd, 1) := by decide +kernel
theorem dX3_comesQuestion_31 : decode cX3_comesQuestion 31 = .ok (.iaload, 1) := by decide +kernel
theorem dX3_comesQuestion_32 : decode cX3_comesQuestion 32 = .ok (.invokestatic 118, 3) := by decide +kernel
theorem dX3_comesQuestion_35 : decode cX3_comesQuestion 35 = .ok (.ifCond .eq 12, 3) := by decide +kernel
theorem dX3_comesQuestion_38 : decode cX3_comesQuestion 38 = .ok (.aload_n 0, 1) := by decide +kernel
theorem dX3_comesQuestion_39 : decode cX3_comesQuestion 39 = .ok (.getfield 70, 3) := by decide +kernel
theorem dX3_comesQuestion_42 : decode cX3_comesQuestion 42 = .ok (.bipush 8, 2) := by decide +kernel
theorem dX3_comesQuestion_44 : decode cX3_comesQuestion 44 = .ok (.if_icmp .ne 5, 3) := by decide +kernel
theorem dX3_comesQuestion_47 : decode cX3_comesQuestion 47 = .ok (.iconst 0, 1) := by decide +kernel
theorem dX3_comesQuestion_48 : decode cX3_comesQuestion 48 = .ok (.ireturn, 1) := by decide +kernel
theorem dX3_comesQuestion_49 : decode cX3_comesQuestion 49 = .ok (.aload_n 0, 1) := by decide +kernel
theorem dX3_comesQuestion_50 : decode cX3_comesQuestion 50 = .ok (.getfield 13, 3) := by decide +kernel
theorem dX3_comesQuestion_53 : decode cX3_comesQuestion 53 = .ok (.aload_n 0, 1) := by decide +kernel
theorem dX3_comesQuestion_54 : decode cX3_comesQuestion 54 = .ok (.getfield 70, 3) := by decide +kernel
theorem dX3_comesQuestion_57 : decode cX3_comesQuestion 57 = .ok (.aload_n 0, 1) := by decide +kernel
theorem dX3_comesQuestion_58 : decode cX3_comesQuestion 58 = .ok (.getfield 52, 3) := by decide +kernel
theorem dX3_comesQuestion_61 : decode cX3_comesQuestion 61 = .ok (.iload_n 1, 1) := by decide +kernel
theorem dX3_comesQuestion_62 : decode cX3_comesQuestion 62 = .ok (.iaload, 1) := by decide +kernel
theorem dX3_comesQuestion_63 : decode cX3_comesQuestion 63 = .ok (.iastore, 1) := by decide +kernel
theorem dX3_comesQuestion_64 : decode cX3_comesQuestion 64 = .ok (.aload_n 0, 1) := by decide +kernel
theorem dX3_comesQuestion_65 : decode cX3_comesQuestion 65 = .ok (.getfield 16, 3) := by decide +kernel
theorem dX3_comesQuestion_68 : decode cX3_comesQuestion 68 = .ok (.aload_n 0, 1) := by decide +kernel
theorem dX3_comesQuestion_69 : decode cX3_comesQuestion 69 = .ok (.getfield 70, 3) := by decide +kernel
theorem dX3_comesQuestion_72 : decode cX3_comesQuestion 72 = .ok (.aload_n 0, 1) := by decide +kernel
theorem dX3_comesQuestion_73 : decode cX3_comesQuestion 73 = .ok (.getfield 52, 3) := by decide +kernel
theorem dX3_comesQuestion_76 : decode cX3_comesQuestion 76 = .ok (.iload_n 1, 1) := by decide +kernel
theorem dX3_comesQuestion_77 : decode cX3_comesQuestion 77 = .ok (.iconst 1, 1) := by decide +kernel
theorem dX3_comesQuestion_78 : decode cX3_comesQuestion 78 = .ok (.iadd, 1) := by decide +kernel
theorem dX3_comesQuestion_79 : decode cX3_comesQuestion 79 = .ok (.iaload, 1) := by decide +kernel
theorem dX3_comesQuestion_80 : decode cX3_comesQuestion 80 = .ok (.iastore, 1) := by decide +kernel
theorem dX3_comesQuestion_81 : decode cX3_comesQuestion 81 = .ok (.aload_n 0, 1) := by decide +kernel
theorem dX3_comesQuestion_82 : decode cX3_comesQuestion 82 = .ok (.getfield 19, 3) := by decide +kernel
theorem dX3_comesQuestion_85 : decode cX3_comesQuestion 85 = .ok (.aload_n 0, 1) := by decide +kernel
theorem dX3_comesQuestion_86 : decode cX3_comesQuestion 86 = .ok (.getfield 70, 3) := by decide +kernel
theorem dX3_comesQuestion_89 : decode cX3_comesQuestion 89 = .ok (.aload_n 0, 1) := by decide +kernel
theorem dX3_comesQuestion_90 : decode cX3_comesQuestion 90 = .ok (.getfield 52, 3) := by decide +kernel
theorem dX3_comesQuestion_93 : decode cX3_comesQuestion 93 = .ok (.iload_n 1, 1) := by decide +kernel
theorem dX3_comesQuestion_94 : decode cX3_comesQuestion 94 = .ok (.iconst 2, 1) := by decide +kernel
theorem dX3_comesQuestion_95 : decode cX3_comesQuestion 95 = .ok (.iadd, 1) := by decide +kernel
theorem dX3_comesQuestion_96 : decode cX3_comesQuestion 96 = .ok (.iaload, 1) := by decide +kernel
theorem dX3_comesQuestion_97 : decode cX3_comesQuestion 97 = .ok (.iastore, 1) := by decide +kernel
theorem dX3_comesQuestion_98 : decode cX3_comesQuestion 98 = .ok (.aload_n 0, 1) := by decide +kernel
theorem dX3_comesQuestion_99 : decode cX3_comesQuestion 99 = .ok (.dup, 1) := by decide +kernel
theorem dX3_comesQuestion_100 : decode cX3_comesQuestion 100 = .ok (.getfield 70, 3) := by decide +kernel
theorem dX3_comesQuestion_103 : decode cX3_comesQuestion 103 = .ok (.iconst 1, 1) := by decide +kernel
theorem dX3_comesQuestion_104 : decode cX3_comesQuestion 104 = .ok (.iadd, 1) := by decide +kernel
theorem dX3_comesQuestion_105 : decode cX3_comesQuestion 105 = .ok (.putfield 70, 3) := by decide +kernel
theorem dX3_comesQuestion_108 : decode cX3_comesQuestion 108 = .ok (.iconst 1, 1) := by decide +kernel
theorem dX3_comesQuestion_109 : decode cX3_comesQuestion 109 = .ok (.ireturn, 1) := by decide +kernel
theorem dX3_comesWitness_0 : decode cX3_comesWitness 0 = .ok (.aload_n 0, 1) := by decide +kernel
theorem dX3_comesWitness_1 : decode cX3_comesWitness 1 = .ok (.getfield 52, 3) := by decide +kernel
theorem dX3_comesWitness_4 : decode cX3_comesWitness 4 = .ok (.iload_n 1, 1) := by decide +kernel
theorem dX3_comesWitness_5 : decode cX3_comesWitness 5 = .ok (.iconst 2, 1) := by decide +kernel
theorem dX3_comesWitness_6 : decode cX3_comesWitness 6 = .ok (.iadd, 1) := by decide +kernel
theorem dX3_comesWitness_7 : decode cX3_comesWitness 7 = .ok (.iaload, 1) := by decide +kernel
theorem dX3_comesWitness_8 : decode cX3_comesWitness 8 = .ok (.bipush 64, 2) := by decide +kernel
theorem dX3_comesWitness_10 : decode cX3_comesWitness 10 = .ok (.if_icmp .ge 11, 3) := by decide +kernel
theorem dX3_comesWitness_13 : decode cX3_comesWitness 13 = .ok (.aload_n 0, 1) := by decide +kernel
theorem dX3_comesWitness_14 : decode cX3_comesWitness 14 = .ok (.getfield 76, 3) := by decide +kernel
theorem dX3_comesWitness_17 : decode cX3_comesWitness 17 = .ok (.iconst 5, 1) := by decide +kernel
theorem dX3_comesWitness_18 : decode cX3_comesWitness 18 = .ok (.if_icmp .ne 5, 3) := by decide +kernel
theorem dX3_comesWitness_21 : decode cX3_comesWitness 21 = .ok (.iconst 0, 1) := by decide +kernel
theorem dX3_comesWitness_22 : decode cX3_comesWitness 22 = .ok (.ireturn, 1) := by decide +kernel
theorem dX3_comesWitness_23 : decode cX3_comesWitness 23 = .ok (.aload_n 0, 1) := by decide +kernel
theorem dX3_comesWitness_24 : decode cX3_comesWitness 24 = .ok (.getfield 22, 3) := by decide +kernel
theorem dX3_comesWitness_27 : decode cX3_comesWitness 27 = .ok (.aload_n 0, 1) := by decide +kernel
theorem dX3_comesWitness_28 : decode cX3_comesWitness 28 = .ok (.getfield 76, 3) := by decide +kernel
theorem dX3_comesWitness_31 : decode cX3_comesWitness 31 = .ok (.aload_n 0, 1) := by decide +kernel
theorem dX3_comesWitness_32 : decode cX3_comesWitness 32 = .ok (.getfield 52, 3) := by decide +kernel
theorem dX3_comesWitness_35 : decode cX3_comesWitness 35 = .ok (.iload_n 1, 1) := by decide +kernel
theorem dX3_comesWitness_36 : decode cX3_comesWitness 36 = .ok (.iaload, 1) := by decide +kernel
theorem dX3_comesWitness_37 : decode cX3_comesWitness 37 = .ok (.iastore, 1) := by decide +kernel
theorem dX3_comesWitness_38 : decode cX3_comesWitness 38 = .ok (.aload_n 0, 1) := by decide +kernel
theorem dX3_comesWitness_39 : decode cX3_comesWitness 39 = .ok (.getfield 25, 3) := by decide +kernel
theorem dX3_comesWitness_42 : decode cX3_comesWitness 42 = .ok (.aload_n 0, 1) := by decide +kernel
theorem dX3_comesWitness_43 : decode cX3_comesWitness 43 = .ok (.getfield 76, 3) := by decide +kernel
theorem dX3_comesWitness_46 : decode cX3_comesWitness 46 = .ok (.aload_n 0, 1) := by decide +kernel
theorem dX3_comesWitness_47 : decode cX3_comesWitness 47 = .ok (.getfield 52, 3) := by decide +kernel
theorem dX3_comesWitness_50 : decode cX3_comesWitness 50 = .ok (.iload_n 1, 1) := by decide +kernel
theorem dX3_comesWitness_51 : decode cX3_comesWitness 51 = .ok (.iconst 1, 1) := by decide +kernel
theorem dX3_comesWitness_52 : decode cX3_comesWitness 52 = .ok (.iadd, 1) := by decide +kernel
theorem dX3_comesWitness_53 : decode cX3_comesWitness 53 = .ok (.iaload, 1) := by decide +kernel
theorem dX3_comesWitness_54 : decode cX3_comesWitness 54 = .ok (.iastore, 1) := by decide +kernel
theorem dX3_comesWitness_55 : decode cX3_comesWitness 55 = .ok (.aload_n 0, 1) := by decide +kernel
theorem dX3_comesWitness_56 : decode cX3_comesWitness 56 = .ok (.getfield 28, 3) := by decide +kernel
theorem dX3_comesWitness_59 : decode cX3_comesWitness 59 = .ok (.aload_n 0, 1) := by decide +kernel
theorem dX3_comesWitness_60 : decode cX3_comesWitness 60 = .ok (.getfield 76, 3) := by decide +kernel
theorem dX3_comesWitness_63 : decode cX3_comesWitness 63 = .ok (.aload_n 0, 1) := by decide +kernel
theorem dX3_comesWitness_64 : decode cX3_comesWitness 64 = .ok (.getfield 52, 3) := by decide +kernel
theorem dX3_comesWitness_67 : decode cX3_comesWitness 67 = .ok (.iload_n 1, 1) := by decide +kernel
theorem dX3_comesWitness_68 : decode cX3_comesWitness 68 = .ok (.iconst 2, 1) := by decide +kernel
theorem dX3_comesWitness_69 : decode cX3_comesWitness 69 = .ok (.iadd, 1) := by decide +kernel
theorem dX3_comesWitness_70 : decode cX3_comesWitness 70 = .ok (.iaload, 1) := by decide +kernel
theorem dX3_comesWitness_71 : decode cX3_comesWitness 71 = .ok (.iastore, 1) := by decide +kernel
theorem dX3_comesWitness_72 : decode cX3_comesWitness 72 = .ok (.aload_n 0, 1) := by decide +kernel
theorem dX3_comesWitness_73 : decode cX3_comesWitness 73 = .ok (.dup, 1) := by decide +kernel
theorem dX3_comesWitness_74 : decode cX3_comesWitness 74 = .ok (.getfield 76, 3) := by decide +kernel
theorem dX3_comesWitness_77 : decode cX3_comesWitness 77 = .ok (.iconst 1, 1) := by decide +kernel
theorem dX3_comesWitness_78 : decode cX3_comesWitness 78 = .ok (.iadd, 1) := by decide +kernel
theorem dX3_comesWitness_79 : decode cX3_comesWitness 79 = .ok (.putfield 76, 3) := by decide +kernel
theorem dX3_comesWitness_82 : decode cX3_comesWitness 82 = .ok (.iconst 1, 1) := by decide +kernel
theorem dX3_comesWitness_83 : decode cX3_comesWitness 83 = .ok (.ireturn, 1) := by decide +kernel
set_option maxRecDepth 20000 in
theorem ggX3_comesAsking_X3_isWitness : GoodIn wsX3_comesAsking wsX3_isWitness := goodIn_r _ [6, 7, 44, 45, 46, 47, 48, 49, 50, 51, 52, 53, 54, 55, 56, 57, 58, 59, 60, 61, 62, 63, 64, 65, 66, 67, 68, 69, 70, 71, 72, 73, 74, 75, 76] (by decide +kernel) (by decide +kernel)
set_option maxRecDepth 20000 in
theorem gX3_comesAsking_X3_isWitness : GoodIn wsX3_comesAsking (wsV RX3 121 RX3 yX3_isWitness wsX3_isWitness) := goodIn_app (goodIn_of _ (by decide +kernel)) ggX3_comesAsking_X3_isWitness
set_option maxRecDepth 20000 in
theorem ggX3_comesAsking_X3_isQuestion : GoodIn wsX3_comesAsking wsX3_isQuestion := goodIn_r _ [11, 12, 44, 45, 46, 47, 48, 49, 50, 51, 52, 53, 54, 55, 56, 57, 58, 59, 60, 61, 62, 63, 64, 65, 66, 67, 68, 69, 70, 71, 72, 73, 74, 75, 76] (by decide +kernel) (by decide +kernel)
set_option maxRecDepth 20000 in
theorem gX3_comesAsking_X3_isQuestion : GoodIn wsX3_comesAsking (wsV RX3 124 RX3 yX3_isQuestion wsX3_isQuestion) := goodIn_app (goodIn_of _ (by decide +kernel)) ggX3_comesAsking_X3_isQuestion
set_option maxRecDepth 20000 in
theorem ggX3_comesAsking_X3_asksOne : GoodIn wsX3_comesAsking wsX3_asksOne := goodIn_r _ [16, 1, 17, 18, 19, 20, 21, 22, 23, 24, 25, 5, 26, 27, 28, 12, 29, 30, 31, 32, 33, 34, 35, 36, 37, 38, 39, 40, 41, 42, 43, 44, 45, 46, 47, 48, 49, 50, 51, 52, 53, 54, 55, 56, 57, 58, 59, 60, 61, 62, 63, 64, 65, 66, 67, 68, 69, 70, 71, 72, 73, 74, 75, 76] (by decide +kernel) (by decide +kernel)
set_option maxRecDepth 20000 in
theorem gX3_comesAsking_X3_asksOne : GoodIn wsX3_comesAsking (wsV RX3 130 RX3 yX3_asksOne wsX3_asksOne) := goodIn_app (goodIn_of _ (by decide +kernel)) ggX3_comesAsking_X3_asksOne
theorem dX3_comesAsking_0 : decode cX3_comesAsking 0 = .ok (.aload_n 0, 1) := by decide +kernel
theorem dX3_comesAsking_1 : decode cX3_comesAsking 1 = .ok (.iload_n 1, 1) := by decide +kernel
theorem dX3_comesAsking_2 : decode cX3_comesAsking 2 = .ok (.invokevirtual 121, 3) := by decide +kernel
theorem dX3_comesAsking_5 : decode cX3_comesAsking 5 = .ok (.ifCond .eq 21, 3) := by decide +kernel
theorem dX3_comesAsking_8 : decode cX3_comesAsking 8 = .ok (.aload_n 0, 1) := by decide +kernel
theorem dX3_comesAsking_9 : decode cX3_comesAsking 9 = .ok (.iload_n 2, 1) := by decide +kernel
theorem dX3_comesAsking_10 : decode cX3_comesAsking 10 = .ok (.invokevirtual 124, 3) := by decide +kernel
theorem dX3_comesAsking_13 : decode cX3_comesAsking 13 = .ok (.ifCond .eq 13, 3) := by decide +kernel
theorem dX3_comesAsking_16 : decode cX3_comesAsking 16 = .ok (.aload_n 0, 1) := by decide +kernel
theorem dX3_comesAsking_17 : decode cX3_comesAsking 17 = .ok (.getfield 127, 3) := by decide +kernel
theorem dX3_comesAsking_20 : decode cX3_comesAsking 20 = .ok (.sipush 999, 3) := by decide +kernel
theorem dX3_comesAsking_23 : decode cX3_comesAsking 23 = .ok (.if_icmp .ne 5, 3) := by decide +kernel
theorem dX3_comesAsking_26 : decode cX3_comesAsking 26 = .ok (.iconst 0, 1) := by decide +kernel
theorem dX3_comesAsking_27 : decode cX3_comesAsking 27 = .ok (.ireturn, 1) := by decide +kernel
theorem dX3_comesAsking_28 : decode cX3_comesAsking 28 = .ok (.aload_n 0, 1) := by decide +kernel
theorem dX3_comesAsking_29 : decode cX3_comesAsking 29 = .ok (.iload_n 1, 1) := by decide +kernel
theorem dX3_comesAsking_30 : decode cX3_comesAsking 30 = .ok (.iload_n 2, 1) := by decide +kernel
theorem dX3_comesAsking_31 : decode cX3_comesAsking 31 = .ok (.invokevirtual 130, 3) := by decide +kernel
theorem dX3_comesAsking_34 : decode cX3_comesAsking 34 = .ok (.pop, 1) := by decide +kernel
theorem dX3_comesAsking_35 : decode cX3_comesAsking 35 = .ok (.iconst 1, 1) := by decide +kernel
theorem dX3_comesAsking_36 : decode cX3_comesAsking 36 = .ok (.ireturn, 1) := by decide +kernel
set_option maxRecDepth 20000 in
theorem ggX3_comes_X3_isFact : GoodIn wsX3_comes wsX3_isFact := goodIn_r _ [9] (by decide +kernel) (by decide +kernel)
set_option maxRecDepth 20000 in
theorem gX3_comes_X3_isFact : GoodIn wsX3_comes (va_wsS RX3 118 yX3_isFact wsX3_isFact) := goodIn_app (goodIn_of _ (by decide +kernel)) ggX3_comes_X3_isFact
set_option maxRecDepth 20000 in
theorem ggX3_comes_X3_comesQuestion : GoodIn wsX3_comes wsX3_comesQuestion := goodIn_r _ [13, 2, 14, 15, 16, 17, 6, 7, 8, 9, 61, 62, 63, 64, 65, 66, 67, 68, 69, 70, 71, 72, 73, 74, 75, 76, 77, 78, 79, 80, 81, 82, 83, 84, 85, 86, 87, 88, 89, 90, 91, 92, 93] (by decide +kernel) (by decide +kernel)
set_option maxRecDepth 20000 in
theorem gX3_comes_X3_comesQuestion : GoodIn wsX3_comes (wsV RX3 137 RX3 yX3_comesQuestion wsX3_comesQuestion) := goodIn_app (goodIn_of _ (by decide +kernel)) ggX3_comes_X3_comesQuestion
set_option maxRecDepth 20000 in
theorem ggX3_comes_X3_comesWitness : GoodIn wsX3_comes wsX3_comesWitness := goodIn_r _ [21, 2, 22, 23, 24, 4, 61, 62, 63, 64, 65, 66, 67, 68, 69, 70, 71, 72, 73, 74, 75, 76, 77, 78, 79, 80, 81, 82, 83, 84, 85, 86, 87, 88, 89, 90, 91, 92, 93] (by decide +kernel) (by decide +kernel)
set_option maxRecDepth 20000 in
theorem gX3_comes_X3_comesWitness : GoodIn wsX3_comes (wsV RX3 140 RX3 yX3_comesWitness wsX3_comesWitness) := goodIn_app (goodIn_of _ (by decide +kernel)) ggX3_comes_X3_comesWitness
set_option maxRecDepth 20000 in
theorem ggX3_comes_X3_isWitness : GoodIn wsX3_comes wsX3_isWitness := goodIn_r _ [28, 22, 61, 62, 63, 64, 65, 66, 67, 68, 69, 70, 71, 72, 73, 74, 75, 76, 77, 78, 79, 80, 81, 82, 83, 84, 85, 86, 87, 88, 89, 90, 91, 92, 93] (by decide +kernel) (by decide +kernel)
set_option maxRecDepth 20000 in
theorem gX3_comes_X3_isWitness : GoodIn wsX3_comes (wsV RX3 121 RX3 yX3_isWitness wsX3_isWitness) := goodIn_app (goodIn_of _ (by decide +kernel)) ggX3_comes_X3_isWitness
set_option maxRecDepth 20000 in
theorem ggX3_comes_X3_comesAsking : GoodIn wsX3_comes wsX3_comesAsking := goodIn_r _ [32, 33, 25, 26, 27, 8, 28, 22, 34, 35, 36, 37, 14, 38, 39, 40, 41, 5, 42, 43, 44, 45, 3, 46, 47, 48, 49, 23, 24, 50, 51, 52, 53, 4, 16, 15, 17, 54, 55, 56, 57, 58, 59, 60, 61, 62, 63, 64, 65, 66, 67, 68, 69, 70, 71, 72, 73, 74, 75, 76, 77, 78, 79, 80, 81, 82, 83, 84, 85, 86, 87, 88, 89, 90, 91, 92, 93] (by decide +kernel) (by decide +kernel)
set_option maxRecDepth 20000 in
theorem gX3_comes_X3_comesAsking : GoodIn wsX3_comes (wsV RX3 143 RX3 yX3_comesAsking wsX3_comesAsking) := goodIn_app (goodIn_of _ (by decide +kernel)) ggX3_comes_X3_comesAsking
theorem dX3_comes_0 : decode cX3_comes 0 = .ok (.iconst 3, 1) := by decide +kernel
theorem dX3_comes_1 : decode cX3_comes 1 = .ok (.iload_n 1, 1) := by decide +kernel
theorem dX3_comes_2 : decode cX3_comes 2 = .ok (.imul, 1) := by decide +kernel
theorem dX3_comes_3 : decode cX3_comes 3 = .ok (.istore_n 2, 1) := by decide +kernel
theorem dX3_comes_4 : decode cX3_comes 4 = .ok (.aload_n 0, 1) := by decide +kernel
theorem dX3_comes_5 : decode cX3_comes 5 = .ok (.getfield 46, 3) := by decide +kernel
theorem dX3_comes_8 : decode cX3_comes 8 = .ok (.iload_n 1, 1) := by decide +kernel
theorem dX3_comes_9 : decode cX3_comes 9 = .ok (.iaload, 1) := by decide +kernel
theorem dX3_comes_10 : decode cX3_comes 10 = .ok (.lookupswitch 169 #[(97, 150), (102, 50), (107, 95), (113, 83), (119, 89)], 50) := by decide +kernel
theorem dX3_comes_60 : decode cX3_comes 60 = .ok (.aload_n 0, 1) := by decide +kernel
theorem dX3_comes_61 : decode cX3_comes 61 = .ok (.getfield 52, 3) := by decide +kernel
theorem dX3_comes_64 : decode cX3_comes 64 = .ok (.iload_n 2, 1) := by decide +kernel
theorem dX3_comes_65 : decode cX3_comes 65 = .ok (.iaload, 1) := by decide +kernel
theorem dX3_comes_66 : decode cX3_comes 66 = .ok (.invokestatic 118, 3) := by decide +kernel
theorem dX3_comes_69 : decode cX3_comes 69 = .ok (.ifCond .ne 5, 3) := by decide +kernel
theorem dX3_comes_72 : decode cX3_comes 72 = .ok (.iconst 0, 1) := by decide +kernel
theorem dX3_comes_73 : decode cX3_comes 73 = .ok (.ireturn, 1) := by decide +kernel
theorem dX3_comes_74 : decode cX3_comes 74 = .ok (.aload_n 0, 1) := by decide +kernel
theorem dX3_comes_75 : decode cX3_comes 75 = .ok (.dup, 1) := by decide +kernel
theorem dX3_comes_76 : decode cX3_comes 76 = .ok (.getfield 134, 3) := by decide +kernel
theorem dX3_comes_79 : decode cX3_comes 79 = .ok (.iconst 1, 1) := by decide +kernel
theorem dX3_comes_80 : decode cX3_comes 80 = .ok (.aload_n 0, 1) := by decide +kernel
theorem dX3_comes_81 : decode cX3_comes 81 = .ok (.getfield 52, 3) := by decide +kernel
theorem dX3_comes_84 : decode cX3_comes 84 = .ok (.iload_n 2, 1) := by decide +kernel
theorem dX3_comes_85 : decode cX3_comes 85 = .ok (.iaload, 1) := by decide +kernel
theorem dX3_comes_86 : decode cX3_comes 86 = .ok (.ishl, 1) := by decide +kernel
theorem dX3_comes_87 : decode cX3_comes 87 = .ok (.ixor, 1) := by decide +kernel
theorem dX3_comes_88 : decode cX3_comes 88 = .ok (.putfield 134, 3) := by decide +kernel
theorem dX3_comes_91 : decode cX3_comes 91 = .ok (.iconst 1, 1) := by decide +kernel
theorem dX3_comes_92 : decode cX3_comes 92 = .ok (.ireturn, 1) := by decide +kernel
theorem dX3_comes_93 : decode cX3_comes 93 = .ok (.aload_n 0, 1) := by decide +kernel
theorem dX3_comes_94 : decode cX3_comes 94 = .ok (.iload_n 2, 1) := by decide +kernel
theorem dX3_comes_95 : decode cX3_comes 95 = .ok (.invokevirtual 137, 3) := by decide +kernel
theorem dX3_comes_98 : decode cX3_comes 98 = .ok (.ireturn, 1) := by decide +kernel
theorem dX3_comes_99 : decode cX3_comes 99 = .ok (.aload_n 0, 1) := by decide +kernel
theorem dX3_comes_100 : decode cX3_comes 100 = .ok (.iload_n 2, 1) := by decide +kernel
theorem dX3_comes_101 : decode cX3_comes 101 = .ok (.invokevirtual 140, 3) := by decide +kernel
theorem dX3_comes_104 : decode cX3_comes 104 = .ok (.ireturn, 1) := by decide +kernel
theorem dX3_comes_105 : decode cX3_comes 105 = .ok (.aload_n 0, 1) := by decide +kernel
theorem dX3_comes_106 : decode cX3_comes 106 = .ok (.aload_n 0, 1) := by decide +kernel
theorem dX3_comes_107 : decode cX3_comes 107 = .ok (.getfield 52, 3) := by decide +kernel
theorem dX3_comes_110 : decode cX3_comes 110 = .ok (.iload_n 2, 1) := by decide +kernel
theorem dX3_comes_111 : decode cX3_comes 111 = .ok (.iaload, 1) := by decide +kernel
theorem dX3_comes_112 : decode cX3_comes 112 = .ok (.invokevirtual 121, 3) := by decide +kernel
theorem dX3_comes_115 : decode cX3_comes 115 = .ok (.ifCond .eq 17, 3) := by decide +kernel
theorem dX3_comes_118 : decode cX3_comes 118 = .ok (.aload_n 0, 1) := by decide +kernel
theorem dX3_comes_119 : decode cX3_comes 119 = .ok (.getfield 52, 3) := by decide +kernel
theorem dX3_comes_122 : decode cX3_comes 122 = .ok (.iload_n 2, 1) := by decide +kernel
theorem dX3_comes_123 : decode cX3_comes 123 = .ok (.iconst 1, 1) := by decide +kernel
theorem dX3_comes_124 : decode cX3_comes 124 = .ok (.iadd, 1) := by decide +kernel
theorem dX3_comes_125 : decode cX3_comes 125 = .ok (.iaload, 1) := by decide +kernel
theorem dX3_comes_126 : decode cX3_comes 126 = .ok (.invokestatic 118, 3) := by decide +kernel
theorem dX3_comes_129 : decode cX3_comes 129 = .ok (.ifCond .ne 5, 3) := by decide +kernel
theorem dX3_comes_132 : decode cX3_comes 132 = .ok (.iconst 0, 1) := by decide +kernel
theorem dX3_comes_133 : decode cX3_comes 133 = .ok (.ireturn, 1) := by decide +kernel
theorem dX3_comes_134 : decode cX3_comes 134 = .ok (.aload_n 0, 1) := by decide +kernel
theorem dX3_comes_135 : decode cX3_comes 135 = .ok (.getfield 28, 3) := by decide +kernel
theorem dX3_comes_138 : decode cX3_comes 138 = .ok (.aload_n 0, 1) := by decide +kernel
theorem dX3_comes_139 : decode cX3_comes 139 = .ok (.getfield 52, 3) := by decide +kernel
theorem dX3_comes_142 : decode cX3_comes 142 = .ok (.iload_n 2, 1) := by decide +kernel
theorem dX3_comes_143 : decode cX3_comes 143 = .ok (.iaload, 1) := by decide +kernel
theorem dX3_comes_144 : decode cX3_comes 144 = .ok (.dup2, 1) := by decide +kernel
theorem dX3_comes_145 : decode cX3_comes 145 = .ok (.iaload, 1) := by decide +kernel
theorem dX3_comes_146 : decode cX3_comes 146 = .ok (.iconst 1, 1) := by decide +kernel
theorem dX3_comes_147 : decode cX3_comes 147 = .ok (.aload_n 0, 1) := by decide +kernel
theorem dX3_comes_148 : decode cX3_comes 148 = .ok (.getfield 52, 3) := by decide +kernel
theorem dX3_comes_151 : decode cX3_comes 151 = .ok (.iload_n 2, 1) := by decide +kernel
theorem dX3_comes_152 : decode cX3_comes 152 = .ok (.iconst 1, 1) := by decide +kernel
theorem dX3_comes_153 : decode cX3_comes 153 = .ok (.iadd, 1) := by decide +kernel
theorem dX3_comes_154 : decode cX3_comes 154 = .ok (.iaload, 1) := by decide +kernel
theorem dX3_comes_155 : decode cX3_comes 155 = .ok (.ishl, 1) := by decide +kernel
theorem dX3_comes_156 : decode cX3_comes 156 = .ok (.ixor, 1) := by decide +kernel
theorem dX3_comes_157 : decode cX3_comes 157 = .ok (.iastore, 1) := by decide +kernel
theorem dX3_comes_158 : decode cX3_comes 158 = .ok (.iconst 1, 1) := by decide +kernel
theorem dX3_comes_159 : decode cX3_comes 159 = .ok (.ireturn, 1) := by decide +kernel
theorem dX3_comes_160 : decode cX3_comes 160 = .ok (.aload_n 0, 1) := by decide +kernel
theorem dX3_comes_161 : decode cX3_comes 161 = .ok (.aload_n 0, 1) := by decide +kernel
theorem dX3_comes_162 : decode cX3_comes 162 = .ok (.getfield 52, 3) := by decide +kernel
theorem dX3_comes_165 : decode cX3_comes 165 = .ok (.iload_n 2, 1) := by decide +kernel
theorem dX3_comes_166 : decode cX3_comes 166 = .ok (.iaload, 1) := by decide +kernel
theorem dX3_comes_167 : decode cX3_comes 167 = .ok (.aload_n 0, 1) := by decide +kernel
theorem dX3_comes_168 : decode cX3_comes 168 = .ok (.getfield 52, 3) := by decide +kernel
theorem dX3_comes_171 : decode cX3_comes 171 = .ok (.iload_n 2, 1) := by decide +kernel
theorem dX3_comes_172 : decode cX3_comes 172 = .ok (.iconst 1, 1) := by decide +kernel
theorem dX3_comes_173 : decode cX3_comes 173 = .ok (.iadd, 1) := by decide +kernel
theorem dX3_comes_174 : decode cX3_comes 174 = .ok (.iaload, 1) := by decide +kernel
theorem dX3_comes_175 : decode cX3_comes 175 = .ok (.invokevirtual 143, 3) := by decide +kernel
theorem dX3_comes_178 : decode cX3_comes 178 = .ok (.ireturn, 1) := by decide +kernel
theorem dX3_comes_179 : decode cX3_comes 179 = .ok (.aload_n 0, 1) := by decide +kernel
theorem dX3_comes_180 : decode cX3_comes 180 = .ok (.iconst 0, 1) := by decide +kernel
theorem dX3_comes_181 : decode cX3_comes 181 = .ok (.putfield 146, 3) := by decide +kernel
theorem dX3_comes_184 : decode cX3_comes 184 = .ok (.iconst 1, 1) := by decide +kernel
theorem dX3_comes_185 : decode cX3_comes 185 = .ok (.ireturn, 1) := by decide +kernel
set_option maxRecDepth 20000 in
theorem ggX3_court_X3_statement : GoodIn wsX3_court wsX3_statement := goodIn_r _ [9, 10, 2, 4, 1, 11, 12, 13, 8, 14, 3, 15, 16, 17, 18, 19, 20, 21, 22, 23, 24, 25, 26, 27, 28, 29, 30, 31, 32, 33, 34, 111, 112, 113, 114, 115, 116, 117, 118, 119, 120, 121, 122, 123, 124, 125, 126, 127, 128, 129, 130, 131, 132, 133, 134, 135, 136, 137, 138, 139, 140, 141, 142, 143] (by decide +kernel) (by decide +kernel)
set_option maxRecDepth 20000 in
theorem gX3_court_X3_statement : GoodIn wsX3_court (wsV RX3 149 RX3 yX3_statement wsX3_statement) := goodIn_app (goodIn_of _ (by decide +kernel)) ggX3_court_X3_statement
set_option maxRecDepth 20000 in
theorem ggX3_court_X3_passesAll : GoodIn wsX3_court wsX3_passesAll := goodIn_r _ [38, 39, 40, 41, 42, 43, 44, 45, 46, 47, 48, 49, 50, 51, 52, 53, 54, 55, 56, 57, 58, 8, 59, 60, 61, 62, 63, 64, 111, 112, 113, 114, 115, 116, 117, 118, 119, 120, 121, 122, 123, 124, 125, 126, 127, 128, 129, 130, 131, 132, 133, 134, 135, 136, 137, 138, 139, 140, 141, 142, 143] (by decide +kernel) (by decide +kernel)
set_option maxRecDepth 20000 in
theorem gX3_court_X3_passesAll : GoodIn wsX3_court (wsV RX3 153 RX3 yX3_passesAll wsX3_passesAll) := goodIn_app (goodIn_of _ (by decide +kernel)) ggX3_court_X3_passesAll
set_option maxRecDepth 20000 in
theorem ggX3_court_X3_comes : GoodIn wsX3_court wsX3_comes := goodIn_r _ [68, 10, 24, 51, 46, 54, 69, 70, 8, 71, 72, 73, 74, 75, 52, 41, 42, 43, 76, 77, 78, 79, 53, 44, 45, 80, 81, 82, 83, 84, 85, 86, 87, 55, 88, 89, 90, 91, 92, 93, 94, 95, 47, 48, 49, 50, 96, 97, 98, 99, 100, 101, 102, 103, 104, 105, 106, 107, 108, 109, 110, 111, 112, 113, 114, 115, 116, 117, 118, 119, 120, 121, 122, 123, 124, 125, 126, 127, 128, 129, 130, 131, 132, 133, 134, 135, 136, 137, 138, 139, 140, 141, 142, 143] (by decide +kernel) (by decide +kernel)
set_option maxRecDepth 20000 in
theorem gX3_court_X3_comes : GoodIn wsX3_court (wsV RX3 157 RX3 yX3_comes wsX3_comes) := goodIn_app (goodIn_of _ (by decide +kernel)) ggX3_court_X3_comes
theorem dX3_court_0 : decode cX3_court 0 = .ok (.aload_n 0, 1) := by decide +kernel
theorem dX3_court_1 : decode cX3_court 1 = .ok (.iconst 0, 1) := by decide +kernel
theorem dX3_court_2 : decode cX3_court 2 = .ok (.putfield 90, 3) := by decide +kernel
theorem dX3_court_5 : decode cX3_court 5 = .ok (.aload_n 0, 1) := by decide +kernel
theorem dX3_court_6 : decode cX3_court 6 = .ok (.iconst 0, 1) := by decide +kernel
theorem dX3_court_7 : decode cX3_court 7 = .ok (.putfield 112, 3) := by decide +kernel
theorem dX3_court_10 : decode cX3_court 10 = .ok (.iconst 1, 1) := by decide +kernel
theorem dX3_court_11 : decode cX3_court 11 = .ok (.istore_n 1, 1) := by decide +kernel
theorem dX3_court_12 : decode cX3_court 12 = .ok (.iload_n 1, 1) := by decide +kernel
theorem dX3_court_13 : decode cX3_court 13 = .ok (.ifCond .eq 47, 3) := by decide +kernel
theorem dX3_court_16 : decode cX3_court 16 = .ok (.aload_n 0, 1) := by decide +kernel
theorem dX3_court_17 : decode cX3_court 17 = .ok (.getfield 90, 3) := by decide +kernel
theorem dX3_court_20 : decode cX3_court 20 = .ok (.aload_n 0, 1) := by decide +kernel
theorem dX3_court_21 : decode cX3_court 21 = .ok (.getfield 83, 3) := by decide +kernel
theorem dX3_court_24 : decode cX3_court 24 = .ok (.if_icmp .lt 10, 3) := by decide +kernel
theorem dX3_court_27 : decode cX3_court 27 = .ok (.aload_n 0, 1) := by decide +kernel
theorem dX3_court_28 : decode cX3_court 28 = .ok (.getfield 112, 3) := by decide +kernel
theorem dX3_court_31 : decode cX3_court 31 = .ok (.ifCond .ne 29, 3) := by decide +kernel
theorem dX3_court_34 : decode cX3_court 34 = .ok (.aload_n 0, 1) := by decide +kernel
theorem dX3_court_35 : decode cX3_court 35 = .ok (.invokevirtual 149, 3) := by decide +kernel
theorem dX3_court_38 : decode cX3_court 38 = .ok (.istore_n 1, 1) := by decide +kernel
theorem dX3_court_39 : decode cX3_court 39 = .ok (.aload_n 0, 1) := by decide +kernel
theorem dX3_court_40 : decode cX3_court 40 = .ok (.dup, 1) := by decide +kernel
theorem dX3_court_41 : decode cX3_court 41 = .ok (.getfield 112, 3) := by decide +kernel
theorem dX3_court_44 : decode cX3_court 44 = .ok (.iload_n 1, 1) := by decide +kernel
theorem dX3_court_45 : decode cX3_court 45 = .ok (.ifCond .eq 7, 3) := by decide +kernel
theorem dX3_court_48 : decode cX3_court 48 = .ok (.iconst 1, 1) := by decide +kernel
theorem dX3_court_49 : decode cX3_court 49 = .ok (.goto 4, 3) := by decide +kernel
theorem dX3_court_52 : decode cX3_court 52 = .ok (.iconst 0, 1) := by decide +kernel
theorem dX3_court_53 : decode cX3_court 53 = .ok (.iadd, 1) := by decide +kernel
theorem dX3_court_54 : decode cX3_court 54 = .ok (.putfield 112, 3) := by decide +kernel
theorem dX3_court_57 : decode cX3_court 57 = .ok (.goto (-45), 3) := by decide +kernel
theorem dX3_court_60 : decode cX3_court 60 = .ok (.aload_n 0, 1) := by decide +kernel
theorem dX3_court_61 : decode cX3_court 61 = .ok (.iconst 0, 1) := by decide +kernel
theorem dX3_court_62 : decode cX3_court 62 = .ok (.putfield 83, 3) := by decide +kernel
theorem dX3_court_65 : decode cX3_court 65 = .ok (.iload_n 1, 1) := by decide +kernel
theorem dX3_court_66 : decode cX3_court 66 = .ok (.ifCond .ne 12, 3) := by decide +kernel
theorem dX3_court_69 : decode cX3_court 69 = .ok (.sipush (-1000), 3) := by decide +kernel
theorem dX3_court_72 : decode cX3_court 72 = .ok (.aload_n 0, 1) := by decide +kernel
theorem dX3_court_73 : decode cX3_court 73 = .ok (.getfield 90, 3) := by decide +kernel
theorem dX3_court_76 : decode cX3_court 76 = .ok (.isub, 1) := by decide +kernel
theorem dX3_court_77 : decode cX3_court 77 = .ok (.ireturn, 1) := by decide +kernel
theorem dX3_court_78 : decode cX3_court 78 = .ok (.aload_n 0, 1) := by decide +kernel
theorem dX3_court_79 : decode cX3_court 79 = .ok (.iconst 1, 1) := by decide +kernel
theorem dX3_court_80 : decode cX3_court 80 = .ok (.iconst 1, 1) := by decide +kernel
theorem dX3_court_81 : decode cX3_court 81 = .ok (.invokevirtual 153, 3) := by decide +kernel
theorem dX3_court_84 : decode cX3_court 84 = .ok (.iconst 0, 1) := by decide +kernel
theorem dX3_court_85 : decode cX3_court 85 = .ok (.istore_n 2, 1) := by decide +kernel
theorem dX3_court_86 : decode cX3_court 86 = .ok (.iload_n 2, 1) := by decide +kernel
theorem dX3_court_87 : decode cX3_court 87 = .ok (.aload_n 0, 1) := by decide +kernel
theorem dX3_court_88 : decode cX3_court 88 = .ok (.getfield 112, 3) := by decide +kernel
theorem dX3_court_91 : decode cX3_court 91 = .ok (.if_icmp .ge 37, 3) := by decide +kernel
theorem dX3_court_94 : decode cX3_court 94 = .ok (.aload_n 0, 1) := by decide +kernel
theorem dX3_court_95 : decode cX3_court 95 = .ok (.iload_n 2, 1) := by decide +kernel
theorem dX3_court_96 : decode cX3_court 96 = .ok (.invokevirtual 157, 3) := by decide +kernel
theorem dX3_court_99 : decode cX3_court 99 = .ok (.ifCond .eq 6, 3) := by decide +kernel
theorem dX3_court_102 : decode cX3_court 102 = .ok (.goto 20, 3) := by decide +kernel
theorem dX3_court_105 : decode cX3_court 105 = .ok (.aload_n 0, 1) := by decide +kernel
theorem dX3_court_106 : decode cX3_court 106 = .ok (.iconst 1, 1) := by decide +kernel
theorem dX3_court_107 : decode cX3_court 107 = .ok (.iconst 0, 1) := by decide +kernel
theorem dX3_court_108 : decode cX3_court 108 = .ok (.invokevirtual 153, 3) := by decide +kernel
theorem dX3_court_111 : decode cX3_court 111 = .ok (.sipush (-2000), 3) := by decide +kernel
theorem dX3_court_114 : decode cX3_court 114 = .ok (.aload_n 0, 1) := by decide +kernel
theorem dX3_court_115 : decode cX3_court 115 = .ok (.getfield 49, 3) := by decide +kernel
theorem dX3_court_118 : decode cX3_court 118 = .ok (.iload_n 2, 1) := by decide +kernel
theorem dX3_court_119 : decode cX3_court 119 = .ok (.iaload, 1) := by decide +kernel
theorem dX3_court_120 : decode cX3_court 120 = .ok (.isub, 1) := by decide +kernel
theorem dX3_court_121 : decode cX3_court 121 = .ok (.ireturn, 1) := by decide +kernel
theorem dX3_court_122 : decode cX3_court 122 = .ok (.iinc 2 1, 3) := by decide +kernel
theorem dX3_court_125 : decode cX3_court 125 = .ok (.goto (-39), 3) := by decide +kernel
theorem dX3_court_128 : decode cX3_court 128 = .ok (.aload_n 0, 1) := by decide +kernel
theorem dX3_court_129 : decode cX3_court 129 = .ok (.getfield 112, 3) := by decide +kernel
theorem dX3_court_132 : decode cX3_court 132 = .ok (.ireturn, 1) := by decide +kernel
theorem dX3_passes_0 : decode cX3_passes 0 = .ok (.iconst 0, 1) := by decide +kernel
theorem dX3_passes_1 : decode cX3_passes 1 = .ok (.istore_n 2, 1) := by decide +kernel
theorem dX3_passes_2 : decode cX3_passes 2 = .ok (.iload_n 2, 1) := by decide +kernel
theorem dX3_passes_3 : decode cX3_passes 3 = .ok (.aload_n 1, 1) := by decide +kernel
theorem dX3_passes_4 : decode cX3_passes 4 = .ok (.arraylength, 1) := by decide +kernel
theorem dX3_passes_5 : decode cX3_passes 5 = .ok (.if_icmp .ge 53, 3) := by decide +kernel
theorem dX3_passes_8 : decode cX3_passes 8 = .ok (.aload_n 0, 1) := by decide +kernel
theorem dX3_passes_9 : decode cX3_passes 9 = .ok (.getfield 160, 3) := by decide +kernel
theorem dX3_passes_12 : decode cX3_passes 12 = .ok (.ifCond .eq 18, 3) := by decide +kernel
theorem dX3_passes_15 : decode cX3_passes 15 = .ok (.aload_n 0, 1) := by decide +kernel
theorem dX3_passes_16 : decode cX3_passes 16 = .ok (.getfield 55, 3) := by decide +kernel
theorem dX3_passes_19 : decode cX3_passes 19 = .ok (.aload_n 0, 1) := by decide +kernel
theorem dX3_passes_20 : decode cX3_passes 20 = .ok (.getfield 164, 3) := by decide +kernel
theorem dX3_passes_23 : decode cX3_passes 23 = .ok (.aload_n 1, 1) := by decide +kernel
theorem dX3_passes_24 : decode cX3_passes 24 = .ok (.iload_n 2, 1) := by decide +kernel
theorem dX3_passes_25 : decode cX3_passes 25 = .ok (.iaload, 1) := by decide +kernel
theorem dX3_passes_26 : decode cX3_passes 26 = .ok (.iastore, 1) := by decide +kernel
theorem dX3_passes_27 : decode cX3_passes 27 = .ok (.goto 15, 3) := by decide +kernel
theorem dX3_passes_30 : decode cX3_passes 30 = .ok (.aload_n 1, 1) := by decide +kernel
theorem dX3_passes_31 : decode cX3_passes 31 = .ok (.iload_n 2, 1) := by decide +kernel
theorem dX3_passes_32 : decode cX3_passes 32 = .ok (.aload_n 0, 1) := by decide +kernel
theorem dX3_passes_33 : decode cX3_passes 33 = .ok (.getfield 55, 3) := by decide +kernel
theorem dX3_passes_36 : decode cX3_passes 36 = .ok (.aload_n 0, 1) := by decide +kernel
theorem dX3_passes_37 : decode cX3_passes 37 = .ok (.getfield 164, 3) := by decide +kernel
theorem dX3_passes_40 : decode cX3_passes 40 = .ok (.iaload, 1) := by decide +kernel
theorem dX3_passes_41 : decode cX3_passes 41 = .ok (.iastore, 1) := by decide +kernel
theorem dX3_passes_42 : decode cX3_passes 42 = .ok (.aload_n 0, 1) := by decide +kernel
theorem dX3_passes_43 : decode cX3_passes 43 = .ok (.dup, 1) := by decide +kernel
theorem dX3_passes_44 : decode cX3_passes 44 = .ok (.getfield 164, 3) := by decide +kernel
theorem dX3_passes_47 : decode cX3_passes 47 = .ok (.iconst 1, 1) := by decide +kernel
theorem dX3_passes_48 : decode cX3_passes 48 = .ok (.iadd, 1) := by decide +kernel
theorem dX3_passes_49 : decode cX3_passes 49 = .ok (.putfield 164, 3) := by decide +kernel
theorem dX3_passes_52 : decode cX3_passes 52 = .ok (.iinc 2 1, 3) := by decide +kernel
theorem dX3_passes_55 : decode cX3_passes 55 = .ok (.goto (-53), 3) := by decide +kernel
theorem dX3_passes_58 : decode cX3_passes 58 = .ok (.return_, 1) := by decide +kernel
theorem dX3_passOne_0 : decode cX3_passOne 0 = .ok (.aload_n 0, 1) := by decide +kernel
theorem dX3_passOne_1 : decode cX3_passOne 1 = .ok (.getfield 160, 3) := by decide +kernel
theorem dX3_passOne_4 : decode cX3_passOne 4 = .ok (.ifCond .eq 7, 3) := by decide +kernel
theorem dX3_passOne_7 : decode cX3_passOne 7 = .ok (.iload_n 1, 1) := by decide +kernel
theorem dX3_passOne_8 : decode cX3_passOne 8 = .ok (.goto 12, 3) := by decide +kernel
theorem dX3_passOne_11 : decode cX3_passOne 11 = .ok (.aload_n 0, 1) := by decide +kernel
theorem dX3_passOne_12 : decode cX3_passOne 12 = .ok (.getfield 55, 3) := by decide +kernel
theorem dX3_passOne_15 : decode cX3_passOne 15 = .ok (.aload_n 0, 1) := by decide +kernel
theorem dX3_passOne_16 : decode cX3_passOne 16 = .ok (.getfield 164, 3) := by decide +kernel
theorem dX3_passOne_19 : decode cX3_passOne 19 = .ok (.iaload, 1) := by decide +kernel
theorem dX3_passOne_20 : decode cX3_passOne 20 = .ok (.istore_n 2, 1) := by decide +kernel
theorem dX3_passOne_21 : decode cX3_passOne 21 = .ok (.aload_n 0, 1) := by decide +kernel
theorem dX3_passOne_22 : decode cX3_passOne 22 = .ok (.getfield 160, 3) := by decide +kernel
theorem dX3_passOne_25 : decode cX3_passOne 25 = .ok (.ifCond .eq 13, 3) := by decide +kernel
theorem dX3_passOne_28 : decode cX3_passOne 28 = .ok (.aload_n 0, 1) := by decide +kernel
theorem dX3_passOne_29 : decode cX3_passOne 29 = .ok (.getfield 55, 3) := by decide +kernel
theorem dX3_passOne_32 : decode cX3_passOne 32 = .ok (.aload_n 0, 1) := by decide +kernel
theorem dX3_passOne_33 : decode cX3_passOne 33 = .ok (.getfield 164, 3) := by decide +kernel
theorem dX3_passOne_36 : decode cX3_passOne 36 = .ok (.iload_n 1, 1) := by decide +kernel
theorem dX3_passOne_37 : decode cX3_passOne 37 = .ok (.iastore, 1) := by decide +kernel
theorem dX3_passOne_38 : decode cX3_passOne 38 = .ok (.aload_n 0, 1) := by decide +kernel
theorem dX3_passOne_39 : decode cX3_passOne 39 = .ok (.dup, 1) := by decide +kernel
theorem dX3_passOne_40 : decode cX3_passOne 40 = .ok (.getfield 164, 3) := by decide +kernel
theorem dX3_passOne_43 : decode cX3_passOne 43 = .ok (.iconst 1, 1) := by decide +kernel
theorem dX3_passOne_44 : decode cX3_passOne 44 = .ok (.iadd, 1) := by decide +kernel
theorem dX3_passOne_45 : decode cX3_passOne 45 = .ok (.putfield 164, 3) := by decide +kernel
theorem dX3_passOne_48 : decode cX3_passOne 48 = .ok (.iload_n 2, 1) := by decide +kernel
theorem dX3_passOne_49 : decode cX3_passOne 49 = .ok (.ireturn, 1) := by decide +kernel
set_option maxRecDepth 20000 in
theorem ggX3_passesAll_X3_passes : GoodIn wsX3_passesAll wsX3_passes := goodIn_r _ [22, 2, 23, 1, 28, 29, 30, 31, 32, 33, 34, 35, 36, 37, 38, 39, 40, 41, 42, 43, 44, 45, 46, 47, 48, 49, 50, 51, 52, 53, 54, 55, 56, 57, 58, 59, 60] (by decide +kernel) (by decide +kernel)
set_option maxRecDepth 20000 in
theorem gX3_passesAll_X3_passes : GoodIn wsX3_passesAll (wsV RX3 167 RX3 yX3_passes wsX3_passes) := goodIn_app (goodIn_of _ (by decide +kernel)) ggX3_passesAll_X3_passes
set_option maxRecDepth 20000 in
theorem ggX3_passesAll_X3_passOne : GoodIn wsX3_passesAll wsX3_passOne := goodIn_r _ [27, 2, 23, 1, 28, 29, 30, 31, 32, 33, 34, 35, 36, 37, 38, 39, 40, 41, 42, 43, 44, 45, 46, 47, 48, 49, 50, 51, 52, 53, 54, 55, 56, 57, 58, 59, 60] (by decide +kernel) (by decide +kernel)
set_option maxRecDepth 20000 in
theorem gX3_passesAll_X3_passOne : GoodIn wsX3_passesAll (wsV RX3 171 RX3 yX3_passOne wsX3_passOne) := goodIn_app (goodIn_of _ (by decide +kernel)) ggX3_passesAll_X3_passOne
theorem dX3_passesAll_0 : decode cX3_passesAll 0 = .ok (.aload_n 0, 1) := by decide +kernel
theorem dX3_passesAll_1 : decode cX3_passesAll 1 = .ok (.bipush 92, 2) := by decide +kernel
theorem dX3_passesAll_3 : decode cX3_passesAll 3 = .ok (.iload_n 1, 1) := by decide +kernel
theorem dX3_passesAll_4 : decode cX3_passesAll 4 = .ok (.imul, 1) := by decide +kernel
theorem dX3_passesAll_5 : decode cX3_passesAll 5 = .ok (.putfield 164, 3) := by decide +kernel
theorem dX3_passesAll_8 : decode cX3_passesAll 8 = .ok (.aload_n 0, 1) := by decide +kernel
theorem dX3_passesAll_9 : decode cX3_passesAll 9 = .ok (.iload_n 2, 1) := by decide +kernel
theorem dX3_passesAll_10 : decode cX3_passesAll 10 = .ok (.putfield 160, 3) := by decide +kernel
theorem dX3_passesAll_13 : decode cX3_passesAll 13 = .ok (.aload_n 0, 1) := by decide +kernel
theorem dX3_passesAll_14 : decode cX3_passesAll 14 = .ok (.aload_n 0, 1) := by decide +kernel
theorem dX3_passesAll_15 : decode cX3_passesAll 15 = .ok (.getfield 13, 3) := by decide +kernel
theorem dX3_passesAll_18 : decode cX3_passesAll 18 = .ok (.invokevirtual 167, 3) := by decide +kernel
theorem dX3_passesAll_21 : decode cX3_passesAll 21 = .ok (.aload_n 0, 1) := by decide +kernel
theorem dX3_passesAll_22 : decode cX3_passesAll 22 = .ok (.aload_n 0, 1) := by decide +kernel
theorem dX3_passesAll_23 : decode cX3_passesAll 23 = .ok (.getfield 16, 3) := by decide +kernel
theorem dX3_passesAll_26 : decode cX3_passesAll 26 = .ok (.invokevirtual 167, 3) := by decide +kernel
theorem dX3_passesAll_29 : decode cX3_passesAll 29 = .ok (.aload_n 0, 1) := by decide +kernel
theorem dX3_passesAll_30 : decode cX3_passesAll 30 = .ok (.aload_n 0, 1) := by decide +kernel
theorem dX3_passesAll_31 : decode cX3_passesAll 31 = .ok (.getfield 19, 3) := by decide +kernel
theorem dX3_passesAll_34 : decode cX3_passesAll 34 = .ok (.invokevirtual 167, 3) := by decide +kernel
theorem dX3_passesAll_37 : decode cX3_passesAll 37 = .ok (.aload_n 0, 1) := by decide +kernel
theorem dX3_passesAll_38 : decode cX3_passesAll 38 = .ok (.aload_n 0, 1) := by decide +kernel
theorem dX3_passesAll_39 : decode cX3_passesAll 39 = .ok (.getfield 22, 3) := by decide +kernel
theorem dX3_passesAll_42 : decode cX3_passesAll 42 = .ok (.invokevirtual 167, 3) := by decide +kernel
theorem dX3_passesAll_45 : decode cX3_passesAll 45 = .ok (.aload_n 0, 1) := by decide +kernel
theorem dX3_passesAll_46 : decode cX3_passesAll 46 = .ok (.aload_n 0, 1) := by decide +kernel
theorem dX3_passesAll_47 : decode cX3_passesAll 47 = .ok (.getfield 25, 3) := by decide +kernel
theorem dX3_passesAll_50 : decode cX3_passesAll 50 = .ok (.invokevirtual 167, 3) := by decide +kernel
theorem dX3_passesAll_53 : decode cX3_passesAll 53 = .ok (.aload_n 0, 1) := by decide +kernel
theorem dX3_passesAll_54 : decode cX3_passesAll 54 = .ok (.aload_n 0, 1) := by decide +kernel
theorem dX3_passesAll_55 : decode cX3_passesAll 55 = .ok (.getfield 28, 3) := by decide +kernel
theorem dX3_passesAll_58 : decode cX3_passesAll 58 = .ok (.invokevirtual 167, 3) := by decide +kernel
theorem dX3_passesAll_61 : decode cX3_passesAll 61 = .ok (.aload_n 0, 1) := by decide +kernel
theorem dX3_passesAll_62 : decode cX3_passesAll 62 = .ok (.aload_n 0, 1) := by decide +kernel
theorem dX3_passesAll_63 : decode cX3_passesAll 63 = .ok (.getfield 31, 3) := by decide +kernel
theorem dX3_passesAll_66 : decode cX3_passesAll 66 = .ok (.invokevirtual 167, 3) := by decide +kernel
theorem dX3_passesAll_69 : decode cX3_passesAll 69 = .ok (.aload_n 0, 1) := by decide +kernel
theorem dX3_passesAll_70 : decode cX3_passesAll 70 = .ok (.aload_n 0, 1) := by decide +kernel
theorem dX3_passesAll_71 : decode cX3_passesAll 71 = .ok (.getfield 34, 3) := by decide +kernel
theorem dX3_passesAll_74 : decode cX3_passesAll 74 = .ok (.invokevirtual 167, 3) := by decide +kernel
theorem dX3_passesAll_77 : decode cX3_passesAll 77 = .ok (.aload_n 0, 1) := by decide +kernel
theorem dX3_passesAll_78 : decode cX3_passesAll 78 = .ok (.aload_n 0, 1) := by decide +kernel
theorem dX3_passesAll_79 : decode cX3_passesAll 79 = .ok (.getfield 37, 3) := by decide +kernel
theorem dX3_passesAll_82 : decode cX3_passesAll 82 = .ok (.invokevirtual 167, 3) := by decide +kernel
theorem dX3_passesAll_85 : decode cX3_passesAll 85 = .ok (.aload_n 0, 1) := by decide +kernel
theorem dX3_passesAll_86 : decode cX3_passesAll 86 = .ok (.aload_n 0, 1) := by decide +kernel
theorem dX3_passesAll_87 : decode cX3_passesAll 87 = .ok (.getfield 40, 3) := by decide +kernel
theorem dX3_passesAll_90 : decode cX3_passesAll 90 = .ok (.invokevirtual 167, 3) := by decide +kernel
theorem dX3_passesAll_93 : decode cX3_passesAll 93 = .ok (.aload_n 0, 1) := by decide +kernel
theorem dX3_passesAll_94 : decode cX3_passesAll 94 = .ok (.aload_n 0, 1) := by decide +kernel
theorem dX3_passesAll_95 : decode cX3_passesAll 95 = .ok (.aload_n 0, 1) := by decide +kernel
theorem dX3_passesAll_96 : decode cX3_passesAll 96 = .ok (.getfield 134, 3) := by decide +kernel
theorem dX3_passesAll_99 : decode cX3_passesAll 99 = .ok (.invokevirtual 171, 3) := by decide +kernel
theorem dX3_passesAll_102 : decode cX3_passesAll 102 = .ok (.putfield 134, 3) := by decide +kernel
theorem dX3_passesAll_105 : decode cX3_passesAll 105 = .ok (.aload_n 0, 1) := by decide +kernel
theorem dX3_passesAll_106 : decode cX3_passesAll 106 = .ok (.aload_n 0, 1) := by decide +kernel
theorem dX3_passesAll_107 : decode cX3_passesAll 107 = .ok (.aload_n 0, 1) := by decide +kernel
theorem dX3_passesAll_108 : decode cX3_passesAll 108 = .ok (.getfield 70, 3) := by decide +kernel
theorem dX3_passesAll_111 : decode cX3_passesAll 111 = .ok (.invokevirtual 171, 3) := by decide +kernel
theorem dX3_passesAll_114 : decode cX3_passesAll 114 = .ok (.putfield 70, 3) := by decide +kernel
theorem dX3_passesAll_117 : decode cX3_passesAll 117 = .ok (.aload_n 0, 1) := by decide +kernel
theorem dX3_passesAll_118 : decode cX3_passesAll 118 = .ok (.aload_n 0, 1) := by decide +kernel
theorem dX3_passesAll_119 : decode cX3_passesAll 119 = .ok (.aload_n 0, 1) := by decide +kernel
theorem dX3_passesAll_120 : decode cX3_passesAll 120 = .ok (.getfield 76, 3) := by decide +kernel
theorem dX3_passesAll_123 : decode cX3_passesAll 123 = .ok (.invokevirtual 171, 3) := by decide +kernel
theorem dX3_passesAll_126 : decode cX3_passesAll 126 = .ok (.putfield 76, 3) := by decide +kernel
theorem dX3_passesAll_129 : decode cX3_passesAll 129 = .ok (.aload_n 0, 1) := by decide +kernel
theorem dX3_passesAll_130 : decode cX3_passesAll 130 = .ok (.aload_n 0, 1) := by decide +kernel
theorem dX3_passesAll_131 : decode cX3_passesAll 131 = .ok (.aload_n 0, 1) := by decide +kernel
theorem dX3_passesAll_132 : decode cX3_passesAll 132 = .ok (.getfield 146, 3) := by decide +kernel
theorem dX3_passesAll_135 : decode cX3_passesAll 135 = .ok (.invokevirtual 171, 3) := by decide +kernel
theorem dX3_passesAll_138 : decode cX3_passesAll 138 = .ok (.putfield 146, 3) := by decide +kernel
theorem dX3_passesAll_141 : decode cX3_passesAll 141 = .ok (.aload_n 0, 1) := by decide +kernel
theorem dX3_passesAll_142 : decode cX3_passesAll 142 = .ok (.aload_n 0, 1) := by decide +kernel
theorem dX3_passesAll_143 : decode cX3_passesAll 143 = .ok (.aload_n 0, 1) := by decide +kernel
theorem dX3_passesAll_144 : decode cX3_passesAll 144 = .ok (.getfield 127, 3) := by decide +kernel
theorem dX3_passesAll_147 : decode cX3_passesAll 147 = .ok (.invokevirtual 171, 3) := by decide +kernel
theorem dX3_passesAll_150 : decode cX3_passesAll 150 = .ok (.putfield 127, 3) := by decide +kernel
theorem dX3_passesAll_153 : decode cX3_passesAll 153 = .ok (.return_, 1) := by decide +kernel
set_option maxRecDepth 20000 in
theorem ggX3_image_X3_passesAll : GoodIn wsX3_image wsX3_passesAll := goodIn_r _ [7, 8, 9, 10, 11, 12, 13, 14, 15, 16, 17, 18, 19, 20, 21, 22, 23, 2, 24, 25, 26, 6, 27, 28, 29, 30, 31, 32, 33, 34, 35, 36, 37, 38, 39, 40, 41, 42, 43, 44, 45, 46, 47, 48, 49, 50, 51, 52, 53, 54, 55, 56, 57, 58, 59, 60, 61, 62, 63, 64, 65] (by decide +kernel) (by decide +kernel)
set_option maxRecDepth 20000 in
theorem gX3_image_X3_passesAll : GoodIn wsX3_image (wsV RX3 153 RX3 yX3_passesAll wsX3_passesAll) := goodIn_app (goodIn_of _ (by decide +kernel)) ggX3_image_X3_passesAll
theorem dX3_image_0 : decode cX3_image 0 = .ok (.aload_n 0, 1) := by decide +kernel
theorem dX3_image_1 : decode cX3_image 1 = .ok (.iconst 1, 1) := by decide +kernel
theorem dX3_image_2 : decode cX3_image 2 = .ok (.putfield 174, 3) := by decide +kernel
theorem dX3_image_5 : decode cX3_image 5 = .ok (.aload_n 0, 1) := by decide +kernel
theorem dX3_image_6 : decode cX3_image 6 = .ok (.iconst 0, 1) := by decide +kernel
theorem dX3_image_7 : decode cX3_image 7 = .ok (.iconst 1, 1) := by decide +kernel
theorem dX3_image_8 : decode cX3_image 8 = .ok (.invokevirtual 153, 3) := by decide +kernel
theorem dX3_image_11 : decode cX3_image 11 = .ok (.aload_n 0, 1) := by decide +kernel
theorem dX3_image_12 : decode cX3_image 12 = .ok (.getfield 127, 3) := by decide +kernel
theorem dX3_image_15 : decode cX3_image 15 = .ok (.ireturn, 1) := by decide +kernel
set_option maxRecDepth 20000 in
theorem ggX3_on_X3_no : GoodIn wsX3_on wsX3_no := goodIn_r _ [7, 8, 38, 39, 40, 41, 42, 43, 44, 45, 46, 47, 48, 49, 50, 51, 52, 53, 54, 55, 56, 57, 58, 59, 60, 61, 62, 63, 64, 65, 66, 67, 68, 69, 70] (by decide +kernel) (by decide +kernel)
set_option maxRecDepth 20000 in
theorem gX3_on_X3_no : GoodIn wsX3_on (wsV RX3 86 RX3 yX3_no wsX3_no) := goodIn_app (goodIn_of _ (by decide +kernel)) ggX3_on_X3_no
set_option maxRecDepth 20000 in
theorem ggX3_on_X3_passesAll : GoodIn wsX3_on wsX3_passesAll := goodIn_r _ [12, 13, 14, 15, 16, 17, 18, 19, 20, 21, 22, 23, 24, 25, 26, 27, 28, 2, 29, 30, 31, 6, 32, 33, 34, 35, 36, 37, 38, 39, 40, 41, 42, 43, 44, 45, 46, 47, 48, 49, 50, 51, 52, 53, 54, 55, 56, 57, 58, 59, 60, 61, 62, 63, 64, 65, 66, 67, 68, 69, 70] (by decide +kernel) (by decide +kernel)
set_option maxRecDepth 20000 in
theorem gX3_on_X3_passesAll : GoodIn wsX3_on (wsV RX3 153 RX3 yX3_passesAll wsX3_passesAll) := goodIn_app (goodIn_of _ (by decide +kernel)) ggX3_on_X3_passesAll
theorem dX3_on_0 : decode cX3_on 0 = .ok (.aload_n 0, 1) := by decide +kernel
theorem dX3_on_1 : decode cX3_on 1 = .ok (.getfield 174, 3) := by decide +kernel
theorem dX3_on_4 : decode cX3_on 4 = .ok (.ifCond .ne 10, 3) := by decide +kernel
theorem dX3_on_7 : decode cX3_on 7 = .ok (.aload_n 0, 1) := by decide +kernel
theorem dX3_on_8 : decode cX3_on 8 = .ok (.bipush (-3), 2) := by decide +kernel
theorem dX3_on_10 : decode cX3_on 10 = .ok (.invokevirtual 86, 3) := by decide +kernel
theorem dX3_on_13 : decode cX3_on 13 = .ok (.ireturn, 1) := by decide +kernel
theorem dX3_on_14 : decode cX3_on 14 = .ok (.aload_n 0, 1) := by decide +kernel
theorem dX3_on_15 : decode cX3_on 15 = .ok (.iconst 0, 1) := by decide +kernel
theorem dX3_on_16 : decode cX3_on 16 = .ok (.iconst 0, 1) := by decide +kernel
theorem dX3_on_17 : decode cX3_on 17 = .ok (.invokevirtual 153, 3) := by decide +kernel
theorem dX3_on_20 : decode cX3_on 20 = .ok (.aload_n 0, 1) := by decide +kernel
theorem dX3_on_21 : decode cX3_on 21 = .ok (.getfield 127, 3) := by decide +kernel
theorem dX3_on_24 : decode cX3_on 24 = .ok (.ireturn, 1) := by decide +kernel
set_option maxRecDepth 20000 in
theorem ggX3_isSo_X3_has : GoodIn wsX3_isSo wsX3_has := goodIn_r _ [7] (by decide +kernel) (by decide +kernel)
set_option maxRecDepth 20000 in
theorem gX3_isSo_X3_has : GoodIn wsX3_isSo (va_wsS RX3 177 yX3_has wsX3_has) := goodIn_app (goodIn_of _ (by decide +kernel)) ggX3_isSo_X3_has
theorem dX3_isSo_0 : decode cX3_isSo 0 = .ok (.iload_n 2, 1) := by decide +kernel
theorem dX3_isSo_1 : decode cX3_isSo 1 = .ok (.aload_n 0, 1) := by decide +kernel
theorem dX3_isSo_2 : decode cX3_isSo 2 = .ok (.getfield 16, 3) := by decide +kernel
theorem dX3_isSo_5 : decode cX3_isSo 5 = .ok (.iload_n 1, 1) := by decide +kernel
theorem dX3_isSo_6 : decode cX3_isSo 6 = .ok (.iaload, 1) := by decide +kernel
theorem dX3_isSo_7 : decode cX3_isSo 7 = .ok (.invokestatic 177, 3) := by decide +kernel
theorem dX3_isSo_10 : decode cX3_isSo 10 = .ok (.istore_n 3, 1) := by decide +kernel
theorem dX3_isSo_11 : decode cX3_isSo 11 = .ok (.iload_n 2, 1) := by decide +kernel
theorem dX3_isSo_12 : decode cX3_isSo 12 = .ok (.aload_n 0, 1) := by decide +kernel
theorem dX3_isSo_13 : decode cX3_isSo 13 = .ok (.getfield 19, 3) := by decide +kernel
theorem dX3_isSo_16 : decode cX3_isSo 16 = .ok (.iload_n 1, 1) := by decide +kernel
theorem dX3_isSo_17 : decode cX3_isSo 17 = .ok (.iaload, 1) := by decide +kernel
theorem dX3_isSo_18 : decode cX3_isSo 18 = .ok (.invokestatic 177, 3) := by decide +kernel
theorem dX3_isSo_21 : decode cX3_isSo 21 = .ok (.istore 4, 2) := by decide +kernel
theorem dX3_isSo_23 : decode cX3_isSo 23 = .ok (.aload_n 0, 1) := by decide +kernel
theorem dX3_isSo_24 : decode cX3_isSo 24 = .ok (.getfield 13, 3) := by decide +kernel
theorem dX3_isSo_27 : decode cX3_isSo 27 = .ok (.iload_n 1, 1) := by decide +kernel
theorem dX3_isSo_28 : decode cX3_isSo 28 = .ok (.iaload, 1) := by decide +kernel
theorem dX3_isSo_29 : decode cX3_isSo 29 = .ok (.tableswitch 73 0 3 #[31, 33, 43, 58], 31) := by decide +kernel
theorem dX3_isSo_60 : decode cX3_isSo 60 = .ok (.iload_n 3, 1) := by decide +kernel
theorem dX3_isSo_61 : decode cX3_isSo 61 = .ok (.ireturn, 1) := by decide +kernel
theorem dX3_isSo_62 : decode cX3_isSo 62 = .ok (.iload_n 3, 1) := by decide +kernel
theorem dX3_isSo_63 : decode cX3_isSo 63 = .ok (.ifCond .ne 7, 3) := by decide +kernel
theorem dX3_isSo_66 : decode cX3_isSo 66 = .ok (.iconst 1, 1) := by decide +kernel
theorem dX3_isSo_67 : decode cX3_isSo 67 = .ok (.goto 4, 3) := by decide +kernel
theorem dX3_isSo_70 : decode cX3_isSo 70 = .ok (.iconst 0, 1) := by decide +kernel
theorem dX3_isSo_71 : decode cX3_isSo 71 = .ok (.ireturn, 1) := by decide +kernel
theorem dX3_isSo_72 : decode cX3_isSo 72 = .ok (.iload_n 3, 1) := by decide +kernel
theorem dX3_isSo_73 : decode cX3_isSo 73 = .ok (.ifCond .eq 12, 3) := by decide +kernel
theorem dX3_isSo_76 : decode cX3_isSo 76 = .ok (.iload 4, 2) := by decide +kernel
theorem dX3_isSo_78 : decode cX3_isSo 78 = .ok (.ifCond .eq 7, 3) := by decide +kernel
theorem dX3_isSo_81 : decode cX3_isSo 81 = .ok (.iconst 1, 1) := by decide +kernel
theorem dX3_isSo_82 : decode cX3_isSo 82 = .ok (.goto 4, 3) := by decide +kernel
theorem dX3_isSo_85 : decode cX3_isSo 85 = .ok (.iconst 0, 1) := by decide +kernel
theorem dX3_isSo_86 : decode cX3_isSo 86 = .ok (.ireturn, 1) := by decide +kernel
theorem dX3_isSo_87 : decode cX3_isSo 87 = .ok (.iload_n 3, 1) := by decide +kernel
theorem dX3_isSo_88 : decode cX3_isSo 88 = .ok (.ifCond .ne 8, 3) := by decide +kernel
theorem dX3_isSo_91 : decode cX3_isSo 91 = .ok (.iload 4, 2) := by decide +kernel
theorem dX3_isSo_93 : decode cX3_isSo 93 = .ok (.ifCond .eq 7, 3) := by decide +kernel
theorem dX3_isSo_96 : decode cX3_isSo 96 = .ok (.iconst 1, 1) := by decide +kernel
theorem dX3_isSo_97 : decode cX3_isSo 97 = .ok (.goto 4, 3) := by decide +kernel
theorem dX3_isSo_100 : decode cX3_isSo 100 = .ok (.iconst 0, 1) := by decide +kernel
theorem dX3_isSo_101 : decode cX3_isSo 101 = .ok (.ireturn, 1) := by decide +kernel
theorem dX3_isSo_102 : decode cX3_isSo 102 = .ok (.iload_n 3, 1) := by decide +kernel
theorem dX3_isSo_103 : decode cX3_isSo 103 = .ok (.iload 4, 2) := by decide +kernel
theorem dX3_isSo_105 : decode cX3_isSo 105 = .ok (.if_icmp .ne 7, 3) := by decide +kernel
theorem dX3_isSo_108 : decode cX3_isSo 108 = .ok (.iconst 1, 1) := by decide +kernel
theorem dX3_isSo_109 : decode cX3_isSo 109 = .ok (.goto 4, 3) := by decide +kernel
theorem dX3_isSo_112 : decode cX3_isSo 112 = .ok (.iconst 0, 1) := by decide +kernel
theorem dX3_isSo_113 : decode cX3_isSo 113 = .ok (.ireturn, 1) := by decide +kernel
set_option maxRecDepth 20000 in
theorem ggX3_plain_X3_has : GoodIn wsX3_plain wsX3_has := goodIn_r _ [8] (by decide +kernel) (by decide +kernel)
set_option maxRecDepth 20000 in
theorem gX3_plain_X3_has : GoodIn wsX3_plain (va_wsS RX3 177 yX3_has wsX3_has) := goodIn_app (goodIn_of _ (by decide +kernel)) ggX3_plain_X3_has
set_option maxRecDepth 20000 in
theorem ggX3_plain_X3_isSo : GoodIn wsX3_plain wsX3_isSo := goodIn_r _ [12, 2, 4, 3, 5, 6, 7, 8, 13, 14, 15, 16, 17, 18, 19, 20, 21, 22, 23, 24, 25, 26, 27, 28, 29, 30, 31, 32, 33, 34, 35, 36, 37, 38, 39, 40, 41, 42, 43, 44, 45] (by decide +kernel) (by decide +kernel)
set_option maxRecDepth 20000 in
theorem gX3_plain_X3_isSo : GoodIn wsX3_plain (wsV RX3 180 RX3 yX3_isSo wsX3_isSo) := goodIn_app (goodIn_of _ (by decide +kernel)) ggX3_plain_X3_isSo
theorem dX3_plain_0 : decode cX3_plain 0 = .ok (.aload_n 0, 1) := by decide +kernel
theorem dX3_plain_1 : decode cX3_plain 1 = .ok (.getfield 28, 3) := by decide +kernel
theorem dX3_plain_4 : decode cX3_plain 4 = .ok (.iload_n 1, 1) := by decide +kernel
theorem dX3_plain_5 : decode cX3_plain 5 = .ok (.iaload, 1) := by decide +kernel
theorem dX3_plain_6 : decode cX3_plain 6 = .ok (.aload_n 0, 1) := by decide +kernel
theorem dX3_plain_7 : decode cX3_plain 7 = .ok (.getfield 16, 3) := by decide +kernel
theorem dX3_plain_10 : decode cX3_plain 10 = .ok (.iload_n 2, 1) := by decide +kernel
theorem dX3_plain_11 : decode cX3_plain 11 = .ok (.iaload, 1) := by decide +kernel
theorem dX3_plain_12 : decode cX3_plain 12 = .ok (.invokestatic 177, 3) := by decide +kernel
theorem dX3_plain_15 : decode cX3_plain 15 = .ok (.ifCond .eq 31, 3) := by decide +kernel
theorem dX3_plain_18 : decode cX3_plain 18 = .ok (.aload_n 0, 1) := by decide +kernel
theorem dX3_plain_19 : decode cX3_plain 19 = .ok (.getfield 13, 3) := by decide +kernel
theorem dX3_plain_22 : decode cX3_plain 22 = .ok (.iload_n 2, 1) := by decide +kernel
theorem dX3_plain_23 : decode cX3_plain 23 = .ok (.iaload, 1) := by decide +kernel
theorem dX3_plain_24 : decode cX3_plain 24 = .ok (.iconst 1, 1) := by decide +kernel
theorem dX3_plain_25 : decode cX3_plain 25 = .ok (.if_icmp .le 23, 3) := by decide +kernel
theorem dX3_plain_28 : decode cX3_plain 28 = .ok (.aload_n 0, 1) := by decide +kernel
theorem dX3_plain_29 : decode cX3_plain 29 = .ok (.getfield 28, 3) := by decide +kernel
theorem dX3_plain_32 : decode cX3_plain 32 = .ok (.iload_n 1, 1) := by decide +kernel
theorem dX3_plain_33 : decode cX3_plain 33 = .ok (.iaload, 1) := by decide +kernel
theorem dX3_plain_34 : decode cX3_plain 34 = .ok (.aload_n 0, 1) := by decide +kernel
theorem dX3_plain_35 : decode cX3_plain 35 = .ok (.getfield 19, 3) := by decide +kernel
theorem dX3_plain_38 : decode cX3_plain 38 = .ok (.iload_n 2, 1) := by decide +kernel
theorem dX3_plain_39 : decode cX3_plain 39 = .ok (.iaload, 1) := by decide +kernel
theorem dX3_plain_40 : decode cX3_plain 40 = .ok (.invokestatic 177, 3) := by decide +kernel
theorem dX3_plain_43 : decode cX3_plain 43 = .ok (.ifCond .ne 5, 3) := by decide +kernel
theorem dX3_plain_46 : decode cX3_plain 46 = .ok (.iconst 2, 1) := by decide +kernel
theorem dX3_plain_47 : decode cX3_plain 47 = .ok (.ireturn, 1) := by decide +kernel
theorem dX3_plain_48 : decode cX3_plain 48 = .ok (.aload_n 0, 1) := by decide +kernel
theorem dX3_plain_49 : decode cX3_plain 49 = .ok (.iload_n 2, 1) := by decide +kernel
theorem dX3_plain_50 : decode cX3_plain 50 = .ok (.iload_n 3, 1) := by decide +kernel
theorem dX3_plain_51 : decode cX3_plain 51 = .ok (.invokevirtual 180, 3) := by decide +kernel
theorem dX3_plain_54 : decode cX3_plain 54 = .ok (.ifCond .eq 7, 3) := by decide +kernel
theorem dX3_plain_57 : decode cX3_plain 57 = .ok (.iconst 1, 1) := by decide +kernel
theorem dX3_plain_58 : decode cX3_plain 58 = .ok (.goto 4, 3) := by decide +kernel
theorem dX3_plain_61 : decode cX3_plain 61 = .ok (.iconst 0, 1) := by decide +kernel
theorem dX3_plain_62 : decode cX3_plain 62 = .ok (.ireturn, 1) := by decide +kernel
set_option maxRecDepth 20000 in
theorem ggX3_answerOf_X3_plain : GoodIn wsX3_answerOf wsX3_plain := goodIn_r _ [8, 9, 10, 11, 12, 13, 14, 7, 15, 16, 17, 18, 19, 20, 21, 22, 23, 24, 25, 26, 27, 28, 29, 30, 31, 32, 33, 34, 35, 36, 37, 38, 39, 40, 41, 42, 43, 44, 45, 46, 47, 48, 49, 50, 51, 52] (by decide +kernel) (by decide +kernel)
set_option maxRecDepth 20000 in
theorem gX3_answerOf_X3_plain : GoodIn wsX3_answerOf (wsV RX3 183 RX3 yX3_plain wsX3_plain) := goodIn_app (goodIn_of _ (by decide +kernel)) ggX3_answerOf_X3_plain
theorem dX3_answerOf_0 : decode cX3_answerOf 0 = .ok (.aload_n 0, 1) := by decide +kernel
theorem dX3_answerOf_1 : decode cX3_answerOf 1 = .ok (.iload_n 1, 1) := by decide +kernel
theorem dX3_answerOf_2 : decode cX3_answerOf 2 = .ok (.iload_n 2, 1) := by decide +kernel
theorem dX3_answerOf_3 : decode cX3_answerOf 3 = .ok (.iload_n 3, 1) := by decide +kernel
theorem dX3_answerOf_4 : decode cX3_answerOf 4 = .ok (.invokevirtual 183, 3) := by decide +kernel
theorem dX3_answerOf_7 : decode cX3_answerOf 7 = .ok (.istore 5, 2) := by decide +kernel
theorem dX3_answerOf_9 : decode cX3_answerOf 9 = .ok (.aload_n 0, 1) := by decide +kernel
theorem dX3_answerOf_10 : decode cX3_answerOf 10 = .ok (.getfield 22, 3) := by decide +kernel
theorem dX3_answerOf_13 : decode cX3_answerOf 13 = .ok (.iload_n 1, 1) := by decide +kernel
theorem dX3_answerOf_14 : decode cX3_answerOf 14 = .ok (.iaload, 1) := by decide +kernel
theorem dX3_answerOf_15 : decode cX3_answerOf 15 = .ok (.tableswitch 99 1 5 #[33, 49, 61, 82, 97], 33) := by decide +kernel
theorem dX3_answerOf_48 : decode cX3_answerOf 48 = .ok (.iload 5, 2) := by decide +kernel
theorem dX3_answerOf_50 : decode cX3_answerOf 50 = .ok (.iconst 2, 1) := by decide +kernel
theorem dX3_answerOf_51 : decode cX3_answerOf 51 = .ok (.if_icmp .ne 8, 3) := by decide +kernel
theorem dX3_answerOf_54 : decode cX3_answerOf 54 = .ok (.iload 5, 2) := by decide +kernel
theorem dX3_answerOf_56 : decode cX3_answerOf 56 = .ok (.goto 7, 3) := by decide +kernel
theorem dX3_answerOf_59 : decode cX3_answerOf 59 = .ok (.iconst 1, 1) := by decide +kernel
theorem dX3_answerOf_60 : decode cX3_answerOf 60 = .ok (.iload 5, 2) := by decide +kernel
theorem dX3_answerOf_62 : decode cX3_answerOf 62 = .ok (.isub, 1) := by decide +kernel
theorem dX3_answerOf_63 : decode cX3_answerOf 63 = .ok (.ireturn, 1) := by decide +kernel
theorem dX3_answerOf_64 : decode cX3_answerOf 64 = .ok (.iload 5, 2) := by decide +kernel
theorem dX3_answerOf_66 : decode cX3_answerOf 66 = .ok (.ifCond .ne 7, 3) := by decide +kernel
theorem dX3_answerOf_69 : decode cX3_answerOf 69 = .ok (.iconst 2, 1) := by decide +kernel
theorem dX3_answerOf_70 : decode cX3_answerOf 70 = .ok (.goto 5, 3) := by decide +kernel
theorem dX3_answerOf_73 : decode cX3_answerOf 73 = .ok (.iload 5, 2) := by decide +kernel
theorem dX3_answerOf_75 : decode cX3_answerOf 75 = .ok (.ireturn, 1) := by decide +kernel
theorem dX3_answerOf_76 : decode cX3_answerOf 76 = .ok (.iload 4, 2) := by decide +kernel
theorem dX3_answerOf_78 : decode cX3_answerOf 78 = .ok (.aload_n 0, 1) := by decide +kernel
theorem dX3_answerOf_79 : decode cX3_answerOf 79 = .ok (.getfield 25, 3) := by decide +kernel
theorem dX3_answerOf_82 : decode cX3_answerOf 82 = .ok (.iload_n 1, 1) := by decide +kernel
theorem dX3_answerOf_83 : decode cX3_answerOf 83 = .ok (.iaload, 1) := by decide +kernel
theorem dX3_answerOf_84 : decode cX3_answerOf 84 = .ok (.iconst 1, 1) := by decide +kernel
theorem dX3_answerOf_85 : decode cX3_answerOf 85 = .ok (.iadd, 1) := by decide +kernel
theorem dX3_answerOf_86 : decode cX3_answerOf 86 = .ok (.irem, 1) := by decide +kernel
theorem dX3_answerOf_87 : decode cX3_answerOf 87 = .ok (.ifCond .ne 7, 3) := by decide +kernel
theorem dX3_answerOf_90 : decode cX3_answerOf 90 = .ok (.iconst 2, 1) := by decide +kernel
theorem dX3_answerOf_91 : decode cX3_answerOf 91 = .ok (.goto 5, 3) := by decide +kernel
theorem dX3_answerOf_94 : decode cX3_answerOf 94 = .ok (.iload 5, 2) := by decide +kernel
theorem dX3_answerOf_96 : decode cX3_answerOf 96 = .ok (.ireturn, 1) := by decide +kernel
theorem dX3_answerOf_97 : decode cX3_answerOf 97 = .ok (.aload_n 0, 1) := by decide +kernel
theorem dX3_answerOf_98 : decode cX3_answerOf 98 = .ok (.iload_n 1, 1) := by decide +kernel
theorem dX3_answerOf_99 : decode cX3_answerOf 99 = .ok (.iload_n 2, 1) := by decide +kernel
theorem dX3_answerOf_100 : decode cX3_answerOf 100 = .ok (.iconst 1, 1) := by decide +kernel
theorem dX3_answerOf_101 : decode cX3_answerOf 101 = .ok (.iadd, 1) := by decide +kernel
theorem dX3_answerOf_102 : decode cX3_answerOf 102 = .ok (.aload_n 0, 1) := by decide +kernel
theorem dX3_answerOf_103 : decode cX3_answerOf 103 = .ok (.getfield 70, 3) := by decide +kernel
theorem dX3_answerOf_106 : decode cX3_answerOf 106 = .ok (.irem, 1) := by decide +kernel
theorem dX3_answerOf_107 : decode cX3_answerOf 107 = .ok (.iload_n 3, 1) := by decide +kernel
theorem dX3_answerOf_108 : decode cX3_answerOf 108 = .ok (.invokevirtual 183, 3) := by decide +kernel
theorem dX3_answerOf_111 : decode cX3_answerOf 111 = .ok (.ireturn, 1) := by decide +kernel
theorem dX3_answerOf_112 : decode cX3_answerOf 112 = .ok (.iconst 1, 1) := by decide +kernel
theorem dX3_answerOf_113 : decode cX3_answerOf 113 = .ok (.ireturn, 1) := by decide +kernel
theorem dX3_answerOf_114 : decode cX3_answerOf 114 = .ok (.iload 5, 2) := by decide +kernel
theorem dX3_answerOf_116 : decode cX3_answerOf 116 = .ok (.ireturn, 1) := by decide +kernel
set_option maxRecDepth 20000 in
theorem ggX3_asksOne_X3_answerOf : GoodIn wsX3_asksOne wsX3_answerOf := goodIn_r _ [12, 13, 14, 15, 16, 17, 18, 11, 19, 20, 21, 22, 23, 24, 25, 26, 27, 28, 29, 30, 31, 32, 33, 34, 35, 36, 37, 38, 39, 40, 41, 42, 43, 44, 45, 46, 47, 48, 49, 50, 51, 52, 53, 54, 55, 56, 57, 58, 59, 60, 61, 62, 63] (by decide +kernel) (by decide +kernel)
set_option maxRecDepth 20000 in
theorem gX3_asksOne_X3_answerOf : GoodIn wsX3_asksOne (wsV RX3 186 RX3 yX3_answerOf wsX3_answerOf) := goodIn_app (goodIn_of _ (by decide +kernel)) ggX3_asksOne_X3_answerOf
theorem dX3_asksOne_0 : decode cX3_asksOne 0 = .ok (.aload_n 0, 1) := by decide +kernel
theorem dX3_asksOne_1 : decode cX3_asksOne 1 = .ok (.dup, 1) := by decide +kernel
theorem dX3_asksOne_2 : decode cX3_asksOne 2 = .ok (.getfield 127, 3) := by decide +kernel
theorem dX3_asksOne_5 : decode cX3_asksOne 5 = .ok (.iconst 1, 1) := by decide +kernel
theorem dX3_asksOne_6 : decode cX3_asksOne 6 = .ok (.iadd, 1) := by decide +kernel
theorem dX3_asksOne_7 : decode cX3_asksOne 7 = .ok (.putfield 127, 3) := by decide +kernel
theorem dX3_asksOne_10 : decode cX3_asksOne 10 = .ok (.aload_n 0, 1) := by decide +kernel
theorem dX3_asksOne_11 : decode cX3_asksOne 11 = .ok (.getfield 146, 3) := by decide +kernel
theorem dX3_asksOne_14 : decode cX3_asksOne 14 = .ok (.bipush 12, 2) := by decide +kernel
theorem dX3_asksOne_16 : decode cX3_asksOne 16 = .ok (.if_icmp .ne 85, 3) := by decide +kernel
theorem dX3_asksOne_19 : decode cX3_asksOne 19 = .ok (.aload_n 0, 1) := by decide +kernel
theorem dX3_asksOne_20 : decode cX3_asksOne 20 = .ok (.dup, 1) := by decide +kernel
theorem dX3_asksOne_21 : decode cX3_asksOne 21 = .ok (.getfield 146, 3) := by decide +kernel
theorem dX3_asksOne_24 : decode cX3_asksOne 24 = .ok (.iconst 1, 1) := by decide +kernel
theorem dX3_asksOne_25 : decode cX3_asksOne 25 = .ok (.isub, 1) := by decide +kernel
theorem dX3_asksOne_26 : decode cX3_asksOne 26 = .ok (.putfield 146, 3) := by decide +kernel
theorem dX3_asksOne_29 : decode cX3_asksOne 29 = .ok (.iconst 0, 1) := by decide +kernel
theorem dX3_asksOne_30 : decode cX3_asksOne 30 = .ok (.istore_n 3, 1) := by decide +kernel
theorem dX3_asksOne_31 : decode cX3_asksOne 31 = .ok (.iload_n 3, 1) := by decide +kernel
theorem dX3_asksOne_32 : decode cX3_asksOne 32 = .ok (.aload_n 0, 1) := by decide +kernel
theorem dX3_asksOne_33 : decode cX3_asksOne 33 = .ok (.getfield 146, 3) := by decide +kernel
theorem dX3_asksOne_36 : decode cX3_asksOne 36 = .ok (.if_icmp .ge 65, 3) := by decide +kernel
theorem dX3_asksOne_39 : decode cX3_asksOne 39 = .ok (.aload_n 0, 1) := by decide +kernel
theorem dX3_asksOne_40 : decode cX3_asksOne 40 = .ok (.getfield 31, 3) := by decide +kernel
theorem dX3_asksOne_43 : decode cX3_asksOne 43 = .ok (.iload_n 3, 1) := by decide +kernel
theorem dX3_asksOne_44 : decode cX3_asksOne 44 = .ok (.aload_n 0, 1) := by decide +kernel
theorem dX3_asksOne_45 : decode cX3_asksOne 45 = .ok (.getfield 31, 3) := by decide +kernel
theorem dX3_asksOne_48 : decode cX3_asksOne 48 = .ok (.iload_n 3, 1) := by decide +kernel
theorem dX3_asksOne_49 : decode cX3_asksOne 49 = .ok (.iconst 1, 1) := by decide +kernel
theorem dX3_asksOne_50 : decode cX3_asksOne 50 = .ok (.iadd, 1) := by decide +kernel
theorem dX3_asksOne_51 : decode cX3_asksOne 51 = .ok (.iaload, 1) := by decide +kernel
theorem dX3_asksOne_52 : decode cX3_asksOne 52 = .ok (.iastore, 1) := by decide +kernel
theorem dX3_asksOne_53 : decode cX3_asksOne 53 = .ok (.aload_n 0, 1) := by decide +kernel
theorem dX3_asksOne_54 : decode cX3_asksOne 54 = .ok (.getfield 34, 3) := by decide +kernel
theorem dX3_asksOne_57 : decode cX3_asksOne 57 = .ok (.iload_n 3, 1) := by decide +kernel
theorem dX3_asksOne_58 : decode cX3_asksOne 58 = .ok (.aload_n 0, 1) := by decide +kernel
theorem dX3_asksOne_59 : decode cX3_asksOne 59 = .ok (.getfield 34, 3) := by decide +kernel
theorem dX3_asksOne_62 : decode cX3_asksOne 62 = .ok (.iload_n 3, 1) := by decide +kernel
theorem dX3_asksOne_63 : decode cX3_asksOne 63 = .ok (.iconst 1, 1) := by decide +kernel
theorem dX3_asksOne_64 : decode cX3_asksOne 64 = .ok (.iadd, 1) := by decide +kernel
theorem dX3_asksOne_65 : decode cX3_asksOne 65 = .ok (.iaload, 1) := by decide +kernel
theorem dX3_asksOne_66 : decode cX3_asksOne 66 = .ok (.iastore, 1) := by decide +kernel
theorem dX3_asksOne_67 : decode cX3_asksOne 67 = .ok (.aload_n 0, 1) := by decide +kernel
theorem dX3_asksOne_68 : decode cX3_asksOne 68 = .ok (.getfield 37, 3) := by decide +kernel
theorem dX3_asksOne_71 : decode cX3_asksOne 71 = .ok (.iload_n 3, 1) := by decide +kernel
theorem dX3_asksOne_72 : decode cX3_asksOne 72 = .ok (.aload_n 0, 1) := by decide +kernel
theorem dX3_asksOne_73 : decode cX3_asksOne 73 = .ok (.getfield 37, 3) := by decide +kernel
theorem dX3_asksOne_76 : decode cX3_asksOne 76 = .ok (.iload_n 3, 1) := by decide +kernel
theorem dX3_asksOne_77 : decode cX3_asksOne 77 = .ok (.iconst 1, 1) := by decide +kernel
theorem dX3_asksOne_78 : decode cX3_asksOne 78 = .ok (.iadd, 1) := by decide +kernel
theorem dX3_asksOne_79 : decode cX3_asksOne 79 = .ok (.iaload, 1) := by decide +kernel
theorem dX3_asksOne_80 : decode cX3_asksOne 80 = .ok (.iastore, 1) := by decide +kernel
theorem dX3_asksOne_81 : decode cX3_asksOne 81 = .ok (.aload_n 0, 1) := by decide +kernel
theorem dX3_asksOne_82 : decode cX3_asksOne 82 = .ok (.getfield 40, 3) := by decide +kernel
theorem dX3_asksOne_85 : decode cX3_asksOne 85 = .ok (.iload_n 3, 1) := by decide +kernel
theorem dX3_asksOne_86 : decode cX3_asksOne 86 = .ok (.aload_n 0, 1) := by decide +kernel
theorem dX3_asksOne_87 : decode cX3_asksOne 87 = .ok (.getfield 40, 3) := by decide +kernel
theorem dX3_asksOne_90 : decode cX3_asksOne 90 = .ok (.iload_n 3, 1) := by decide +kernel
theorem dX3_asksOne_91 : decode cX3_asksOne 91 = .ok (.iconst 1, 1) := by decide +kernel
theorem dX3_asksOne_92 : decode cX3_asksOne 92 = .ok (.iadd, 1) := by decide +kernel
theorem dX3_asksOne_93 : decode cX3_asksOne 93 = .ok (.iaload, 1) := by decide +kernel
theorem dX3_asksOne_94 : decode cX3_asksOne 94 = .ok (.iastore, 1) := by decide +kernel
theorem dX3_asksOne_95 : decode cX3_asksOne 95 = .ok (.iinc 3 1, 3) := by decide +kernel
theorem dX3_asksOne_98 : decode cX3_asksOne 98 = .ok (.goto (-67), 3) := by decide +kernel
theorem dX3_asksOne_101 : decode cX3_asksOne 101 = .ok (.aload_n 0, 1) := by decide +kernel
theorem dX3_asksOne_102 : decode cX3_asksOne 102 = .ok (.getfield 31, 3) := by decide +kernel
theorem dX3_asksOne_105 : decode cX3_asksOne 105 = .ok (.aload_n 0, 1) := by decide +kernel
theorem dX3_asksOne_106 : decode cX3_asksOne 106 = .ok (.getfield 146, 3) := by decide +kernel
theorem dX3_asksOne_109 : decode cX3_asksOne 109 = .ok (.iload_n 1, 1) := by decide +kernel
theorem dX3_asksOne_110 : decode cX3_asksOne 110 = .ok (.iastore, 1) := by decide +kernel
theorem dX3_asksOne_111 : decode cX3_asksOne 111 = .ok (.aload_n 0, 1) := by decide +kernel
theorem dX3_asksOne_112 : decode cX3_asksOne 112 = .ok (.getfield 34, 3) := by decide +kernel
theorem dX3_asksOne_115 : decode cX3_asksOne 115 = .ok (.aload_n 0, 1) := by decide +kernel
theorem dX3_asksOne_116 : decode cX3_asksOne 116 = .ok (.getfield 146, 3) := by decide +kernel
theorem dX3_asksOne_119 : decode cX3_asksOne 119 = .ok (.iload_n 2, 1) := by decide +kernel
theorem dX3_asksOne_120 : decode cX3_asksOne 120 = .ok (.iastore, 1) := by decide +kernel
theorem dX3_asksOne_121 : decode cX3_asksOne 121 = .ok (.aload_n 0, 1) := by decide +kernel
theorem dX3_asksOne_122 : decode cX3_asksOne 122 = .ok (.getfield 37, 3) := by decide +kernel
theorem dX3_asksOne_125 : decode cX3_asksOne 125 = .ok (.aload_n 0, 1) := by decide +kernel
theorem dX3_asksOne_126 : decode cX3_asksOne 126 = .ok (.getfield 146, 3) := by decide +kernel
theorem dX3_asksOne_129 : decode cX3_asksOne 129 = .ok (.aload_n 0, 1) := by decide +kernel
theorem dX3_asksOne_130 : decode cX3_asksOne 130 = .ok (.iload_n 1, 1) := by decide +kernel
theorem dX3_asksOne_131 : decode cX3_asksOne 131 = .ok (.iload_n 2, 1) := by decide +kernel
theorem dX3_asksOne_132 : decode cX3_asksOne 132 = .ok (.aload_n 0, 1) := by decide +kernel
theorem dX3_asksOne_133 : decode cX3_asksOne 133 = .ok (.getfield 134, 3) := by decide +kernel
theorem dX3_asksOne_136 : decode cX3_asksOne 136 = .ok (.aload_n 0, 1) := by decide +kernel
theorem dX3_asksOne_137 : decode cX3_asksOne 137 = .ok (.getfield 127, 3) := by decide +kernel
theorem dX3_asksOne_140 : decode cX3_asksOne 140 = .ok (.invokevirtual 186, 3) := by decide +kernel
theorem dX3_asksOne_143 : decode cX3_asksOne 143 = .ok (.iastore, 1) := by decide +kernel
theorem dX3_asksOne_144 : decode cX3_asksOne 144 = .ok (.aload_n 0, 1) := by decide +kernel
theorem dX3_asksOne_145 : decode cX3_asksOne 145 = .ok (.getfield 40, 3) := by decide +kernel
theorem dX3_asksOne_148 : decode cX3_asksOne 148 = .ok (.aload_n 0, 1) := by decide +kernel
theorem dX3_asksOne_149 : decode cX3_asksOne 149 = .ok (.getfield 146, 3) := by decide +kernel
theorem dX3_asksOne_152 : decode cX3_asksOne 152 = .ok (.aload_n 0, 1) := by decide +kernel
theorem dX3_asksOne_153 : decode cX3_asksOne 153 = .ok (.getfield 127, 3) := by decide +kernel
theorem dX3_asksOne_156 : decode cX3_asksOne 156 = .ok (.iastore, 1) := by decide +kernel
theorem dX3_asksOne_157 : decode cX3_asksOne 157 = .ok (.aload_n 0, 1) := by decide +kernel
theorem dX3_asksOne_158 : decode cX3_asksOne 158 = .ok (.dup, 1) := by decide +kernel
theorem dX3_asksOne_159 : decode cX3_asksOne 159 = .ok (.getfield 146, 3) := by decide +kernel
theorem dX3_asksOne_162 : decode cX3_asksOne 162 = .ok (.iconst 1, 1) := by decide +kernel
theorem dX3_asksOne_163 : decode cX3_asksOne 163 = .ok (.iadd, 1) := by decide +kernel
theorem dX3_asksOne_164 : decode cX3_asksOne 164 = .ok (.putfield 146, 3) := by decide +kernel
theorem dX3_asksOne_167 : decode cX3_asksOne 167 = .ok (.aload_n 0, 1) := by decide +kernel
theorem dX3_asksOne_168 : decode cX3_asksOne 168 = .ok (.getfield 37, 3) := by decide +kernel
theorem dX3_asksOne_171 : decode cX3_asksOne 171 = .ok (.aload_n 0, 1) := by decide +kernel
theorem dX3_asksOne_172 : decode cX3_asksOne 172 = .ok (.getfield 146, 3) := by decide +kernel
theorem dX3_asksOne_175 : decode cX3_asksOne 175 = .ok (.iconst 1, 1) := by decide +kernel
theorem dX3_asksOne_176 : decode cX3_asksOne 176 = .ok (.isub, 1) := by decide +kernel
theorem dX3_asksOne_177 : decode cX3_asksOne 177 = .ok (.iaload, 1) := by decide +kernel
theorem dX3_asksOne_178 : decode cX3_asksOne 178 = .ok (.ireturn, 1) := by decide +kernel
set_option maxRecDepth 20000 in
theorem ggX3_fact_X3_isFact : GoodIn wsX3_fact wsX3_isFact := goodIn_r _ [5] (by decide +kernel) (by decide +kernel)
set_option maxRecDepth 20000 in
theorem gX3_fact_X3_isFact : GoodIn wsX3_fact (va_wsS RX3 118 yX3_isFact wsX3_isFact) := goodIn_app (goodIn_of _ (by decide +kernel)) ggX3_fact_X3_isFact
set_option maxRecDepth 20000 in
theorem ggX3_fact_X3_no : GoodIn wsX3_fact wsX3_no := goodIn_r _ [9, 10, 11, 12, 13, 14, 15, 16, 17, 18, 19, 20, 21, 22, 23, 24, 25, 26, 27, 28, 29, 30, 31, 32, 33, 34, 35, 36, 37, 38, 39, 40, 41, 42, 43] (by decide +kernel) (by decide +kernel)
set_option maxRecDepth 20000 in
theorem gX3_fact_X3_no : GoodIn wsX3_fact (wsV RX3 86 RX3 yX3_no wsX3_no) := goodIn_app (goodIn_of _ (by decide +kernel)) ggX3_fact_X3_no
theorem dX3_fact_0 : decode cX3_fact 0 = .ok (.iload_n 1, 1) := by decide +kernel
theorem dX3_fact_1 : decode cX3_fact 1 = .ok (.invokestatic 118, 3) := by decide +kernel
theorem dX3_fact_4 : decode cX3_fact 4 = .ok (.ifCond .eq 14, 3) := by decide +kernel
theorem dX3_fact_7 : decode cX3_fact 7 = .ok (.aload_n 0, 1) := by decide +kernel
theorem dX3_fact_8 : decode cX3_fact 8 = .ok (.getfield 134, 3) := by decide +kernel
theorem dX3_fact_11 : decode cX3_fact 11 = .ok (.iload_n 1, 1) := by decide +kernel
theorem dX3_fact_12 : decode cX3_fact 12 = .ok (.ishr, 1) := by decide +kernel
theorem dX3_fact_13 : decode cX3_fact 13 = .ok (.iconst 1, 1) := by decide +kernel
theorem dX3_fact_14 : decode cX3_fact 14 = .ok (.iand, 1) := by decide +kernel
theorem dX3_fact_15 : decode cX3_fact 15 = .ok (.goto 8, 3) := by decide +kernel
theorem dX3_fact_18 : decode cX3_fact 18 = .ok (.aload_n 0, 1) := by decide +kernel
theorem dX3_fact_19 : decode cX3_fact 19 = .ok (.iconst (-1), 1) := by decide +kernel
theorem dX3_fact_20 : decode cX3_fact 20 = .ok (.invokevirtual 86, 3) := by decide +kernel
theorem dX3_fact_23 : decode cX3_fact 23 = .ok (.ireturn, 1) := by decide +kernel
set_option maxRecDepth 20000 in
theorem ggX3_question_X3_isQuestion : GoodIn wsX3_question wsX3_isQuestion := goodIn_r _ [9, 10, 23, 24, 25, 26, 27, 28, 29, 30, 31, 32, 33, 34, 35, 36, 37, 38, 39, 40, 41, 42, 43, 44, 45, 46, 47, 48, 49, 50, 51, 52, 53, 54, 55] (by decide +kernel) (by decide +kernel)
set_option maxRecDepth 20000 in
theorem gX3_question_X3_isQuestion : GoodIn wsX3_question (wsV RX3 124 RX3 yX3_isQuestion wsX3_isQuestion) := goodIn_app (goodIn_of _ (by decide +kernel)) ggX3_question_X3_isQuestion
set_option maxRecDepth 20000 in
theorem ggX3_question_X3_no : GoodIn wsX3_question wsX3_no := goodIn_r _ [14, 15, 23, 24, 25, 26, 27, 28, 29, 30, 31, 32, 33, 34, 35, 36, 37, 38, 39, 40, 41, 42, 43, 44, 45, 46, 47, 48, 49, 50, 51, 52, 53, 54, 55] (by decide +kernel) (by decide +kernel)
set_option maxRecDepth 20000 in
theorem gX3_question_X3_no : GoodIn wsX3_question (wsV RX3 86 RX3 yX3_no wsX3_no) := goodIn_app (goodIn_of _ (by decide +kernel)) ggX3_question_X3_no
set_option maxRecDepth 20000 in
theorem ggX3_question_X3_isSo : GoodIn wsX3_question wsX3_isSo := goodIn_r _ [19, 2, 3, 1, 20, 21, 8, 22, 23, 24, 25, 26, 27, 28, 29, 30, 31, 32, 33, 34, 35, 36, 37, 38, 39, 40, 41, 42, 43, 44, 45, 46, 47, 48, 49, 50, 51, 52, 53, 54, 55] (by decide +kernel) (by decide +kernel)
set_option maxRecDepth 20000 in
theorem gX3_question_X3_isSo : GoodIn wsX3_question (wsV RX3 180 RX3 yX3_isSo wsX3_isSo) := goodIn_app (goodIn_of _ (by decide +kernel)) ggX3_question_X3_isSo
theorem dX3_question_0 : decode cX3_question 0 = .ok (.aload_n 0, 1) := by decide +kernel
theorem dX3_question_1 : decode cX3_question 1 = .ok (.iload_n 1, 1) := by decide +kernel
theorem dX3_question_2 : decode cX3_question 2 = .ok (.invokevirtual 124, 3) := by decide +kernel
theorem dX3_question_5 : decode cX3_question 5 = .ok (.ifCond .ne 9, 3) := by decide +kernel
theorem dX3_question_8 : decode cX3_question 8 = .ok (.aload_n 0, 1) := by decide +kernel
theorem dX3_question_9 : decode cX3_question 9 = .ok (.iconst (-1), 1) := by decide +kernel
theorem dX3_question_10 : decode cX3_question 10 = .ok (.invokevirtual 86, 3) := by decide +kernel
theorem dX3_question_13 : decode cX3_question 13 = .ok (.ireturn, 1) := by decide +kernel
theorem dX3_question_14 : decode cX3_question 14 = .ok (.iload_n 2, 1) := by decide +kernel
theorem dX3_question_15 : decode cX3_question 15 = .ok (.tableswitch 68 0 3 #[29, 36, 43, 50], 29) := by decide +kernel
theorem dX3_question_44 : decode cX3_question 44 = .ok (.aload_n 0, 1) := by decide +kernel
theorem dX3_question_45 : decode cX3_question 45 = .ok (.getfield 13, 3) := by decide +kernel
theorem dX3_question_48 : decode cX3_question 48 = .ok (.iload_n 1, 1) := by decide +kernel
theorem dX3_question_49 : decode cX3_question 49 = .ok (.iaload, 1) := by decide +kernel
theorem dX3_question_50 : decode cX3_question 50 = .ok (.ireturn, 1) := by decide +kernel
theorem dX3_question_51 : decode cX3_question 51 = .ok (.aload_n 0, 1) := by decide +kernel
theorem dX3_question_52 : decode cX3_question 52 = .ok (.getfield 16, 3) := by decide +kernel
theorem dX3_question_55 : decode cX3_question 55 = .ok (.iload_n 1, 1) := by decide +kernel
theorem dX3_question_56 : decode cX3_question 56 = .ok (.iaload, 1) := by decide +kernel
theorem dX3_question_57 : decode cX3_question 57 = .ok (.ireturn, 1) := by decide +kernel
theorem dX3_question_58 : decode cX3_question 58 = .ok (.aload_n 0, 1) := by decide +kernel
theorem dX3_question_59 : decode cX3_question 59 = .ok (.getfield 19, 3) := by decide +kernel
theorem dX3_question_62 : decode cX3_question 62 = .ok (.iload_n 1, 1) := by decide +kernel
theorem dX3_question_63 : decode cX3_question 63 = .ok (.iaload, 1) := by decide +kernel
theorem dX3_question_64 : decode cX3_question 64 = .ok (.ireturn, 1) := by decide +kernel
theorem dX3_question_65 : decode cX3_question 65 = .ok (.aload_n 0, 1) := by decide +kernel
theorem dX3_question_66 : decode cX3_question 66 = .ok (.iload_n 1, 1) := by decide +kernel
theorem dX3_question_67 : decode cX3_question 67 = .ok (.aload_n 0, 1) := by decide +kernel
theorem dX3_question_68 : decode cX3_question 68 = .ok (.getfield 134, 3) := by decide +kernel
theorem dX3_question_71 : decode cX3_question 71 = .ok (.invokevirtual 180, 3) := by decide +kernel
theorem dX3_question_74 : decode cX3_question 74 = .ok (.ifCond .eq 7, 3) := by decide +kernel
theorem dX3_question_77 : decode cX3_question 77 = .ok (.iconst 1, 1) := by decide +kernel
theorem dX3_question_78 : decode cX3_question 78 = .ok (.goto 4, 3) := by decide +kernel
theorem dX3_question_81 : decode cX3_question 81 = .ok (.iconst 0, 1) := by decide +kernel
theorem dX3_question_82 : decode cX3_question 82 = .ok (.ireturn, 1) := by decide +kernel
theorem dX3_question_83 : decode cX3_question 83 = .ok (.aload_n 0, 1) := by decide +kernel
theorem dX3_question_84 : decode cX3_question 84 = .ok (.bipush (-2), 2) := by decide +kernel
theorem dX3_question_86 : decode cX3_question 86 = .ok (.invokevirtual 86, 3) := by decide +kernel
theorem dX3_question_89 : decode cX3_question 89 = .ok (.ireturn, 1) := by decide +kernel
set_option maxRecDepth 20000 in
theorem ggX3_witness_X3_isWitness : GoodIn wsX3_witness wsX3_isWitness := goodIn_r _ [8, 9, 15, 16, 17, 18, 19, 20, 21, 22, 23, 24, 25, 26, 27, 28, 29, 30, 31, 32, 33, 34, 35, 36, 37, 38, 39, 40, 41, 42, 43, 44, 45, 46, 47] (by decide +kernel) (by decide +kernel)
set_option maxRecDepth 20000 in
theorem gX3_witness_X3_isWitness : GoodIn wsX3_witness (wsV RX3 121 RX3 yX3_isWitness wsX3_isWitness) := goodIn_app (goodIn_of _ (by decide +kernel)) ggX3_witness_X3_isWitness
set_option maxRecDepth 20000 in
theorem ggX3_witness_X3_no : GoodIn wsX3_witness wsX3_no := goodIn_r _ [13, 14, 15, 16, 17, 18, 19, 20, 21, 22, 23, 24, 25, 26, 27, 28, 29, 30, 31, 32, 33, 34, 35, 36, 37, 38, 39, 40, 41, 42, 43, 44, 45, 46, 47] (by decide +kernel) (by decide +kernel)
set_option maxRecDepth 20000 in
theorem gX3_witness_X3_no : GoodIn wsX3_witness (wsV RX3 86 RX3 yX3_no wsX3_no) := goodIn_app (goodIn_of _ (by decide +kernel)) ggX3_witness_X3_no
theorem dX3_witness_0 : decode cX3_witness 0 = .ok (.aload_n 0, 1) := by decide +kernel
theorem dX3_witness_1 : decode cX3_witness 1 = .ok (.iload_n 1, 1) := by decide +kernel
theorem dX3_witness_2 : decode cX3_witness 2 = .ok (.invokevirtual 121, 3) := by decide +kernel
theorem dX3_witness_5 : decode cX3_witness 5 = .ok (.ifCond .ne 9, 3) := by decide +kernel
theorem dX3_witness_8 : decode cX3_witness 8 = .ok (.aload_n 0, 1) := by decide +kernel
theorem dX3_witness_9 : decode cX3_witness 9 = .ok (.iconst (-1), 1) := by decide +kernel
theorem dX3_witness_10 : decode cX3_witness 10 = .ok (.invokevirtual 86, 3) := by decide +kernel
theorem dX3_witness_13 : decode cX3_witness 13 = .ok (.ireturn, 1) := by decide +kernel
theorem dX3_witness_14 : decode cX3_witness 14 = .ok (.iload_n 2, 1) := by decide +kernel
theorem dX3_witness_15 : decode cX3_witness 15 = .ok (.ifCond .ne 12, 3) := by decide +kernel
theorem dX3_witness_18 : decode cX3_witness 18 = .ok (.aload_n 0, 1) := by decide +kernel
theorem dX3_witness_19 : decode cX3_witness 19 = .ok (.getfield 22, 3) := by decide +kernel
theorem dX3_witness_22 : decode cX3_witness 22 = .ok (.iload_n 1, 1) := by decide +kernel
theorem dX3_witness_23 : decode cX3_witness 23 = .ok (.iaload, 1) := by decide +kernel
theorem dX3_witness_24 : decode cX3_witness 24 = .ok (.goto 37, 3) := by decide +kernel
theorem dX3_witness_27 : decode cX3_witness 27 = .ok (.iload_n 2, 1) := by decide +kernel
theorem dX3_witness_28 : decode cX3_witness 28 = .ok (.iconst 1, 1) := by decide +kernel
theorem dX3_witness_29 : decode cX3_witness 29 = .ok (.if_icmp .ne 12, 3) := by decide +kernel
theorem dX3_witness_32 : decode cX3_witness 32 = .ok (.aload_n 0, 1) := by decide +kernel
theorem dX3_witness_33 : decode cX3_witness 33 = .ok (.getfield 25, 3) := by decide +kernel
theorem dX3_witness_36 : decode cX3_witness 36 = .ok (.iload_n 1, 1) := by decide +kernel
theorem dX3_witness_37 : decode cX3_witness 37 = .ok (.iaload, 1) := by decide +kernel
theorem dX3_witness_38 : decode cX3_witness 38 = .ok (.goto 23, 3) := by decide +kernel
theorem dX3_witness_41 : decode cX3_witness 41 = .ok (.iload_n 2, 1) := by decide +kernel
theorem dX3_witness_42 : decode cX3_witness 42 = .ok (.iconst 2, 1) := by decide +kernel
theorem dX3_witness_43 : decode cX3_witness 43 = .ok (.if_icmp .ne 12, 3) := by decide +kernel
theorem dX3_witness_46 : decode cX3_witness 46 = .ok (.aload_n 0, 1) := by decide +kernel
theorem dX3_witness_47 : decode cX3_witness 47 = .ok (.getfield 28, 3) := by decide +kernel
theorem dX3_witness_50 : decode cX3_witness 50 = .ok (.iload_n 1, 1) := by decide +kernel
theorem dX3_witness_51 : decode cX3_witness 51 = .ok (.iaload, 1) := by decide +kernel
theorem dX3_witness_52 : decode cX3_witness 52 = .ok (.goto 9, 3) := by decide +kernel
theorem dX3_witness_55 : decode cX3_witness 55 = .ok (.aload_n 0, 1) := by decide +kernel
theorem dX3_witness_56 : decode cX3_witness 56 = .ok (.bipush (-2), 2) := by decide +kernel
theorem dX3_witness_58 : decode cX3_witness 58 = .ok (.invokevirtual 86, 3) := by decide +kernel
theorem dX3_witness_61 : decode cX3_witness 61 = .ok (.ireturn, 1) := by decide +kernel
set_option maxRecDepth 20000 in
theorem ggX3_asks_X3_isWitness : GoodIn wsX3_asks wsX3_isWitness := goodIn_r _ [6, 7, 49, 50, 51, 52, 53, 54, 55, 56, 57, 58, 59, 60, 61, 62, 63, 64, 65, 66, 67, 68, 69, 70, 71, 72, 73, 74, 75, 76, 77, 78, 79, 80, 81] (by decide +kernel) (by decide +kernel)
set_option maxRecDepth 20000 in
theorem gX3_asks_X3_isWitness : GoodIn wsX3_asks (wsV RX3 121 RX3 yX3_isWitness wsX3_isWitness) := goodIn_app (goodIn_of _ (by decide +kernel)) ggX3_asks_X3_isWitness
set_option maxRecDepth 20000 in
theorem ggX3_asks_X3_isQuestion : GoodIn wsX3_asks wsX3_isQuestion := goodIn_r _ [11, 12, 49, 50, 51, 52, 53, 54, 55, 56, 57, 58, 59, 60, 61, 62, 63, 64, 65, 66, 67, 68, 69, 70, 71, 72, 73, 74, 75, 76, 77, 78, 79, 80, 81] (by decide +kernel) (by decide +kernel)
set_option maxRecDepth 20000 in
theorem gX3_asks_X3_isQuestion : GoodIn wsX3_asks (wsV RX3 124 RX3 yX3_isQuestion wsX3_isQuestion) := goodIn_app (goodIn_of _ (by decide +kernel)) ggX3_asks_X3_isQuestion
set_option maxRecDepth 20000 in
theorem ggX3_asks_X3_no : GoodIn wsX3_asks wsX3_no := goodIn_r _ [16, 17, 49, 50, 51, 52, 53, 54, 55, 56, 57, 58, 59, 60, 61, 62, 63, 64, 65, 66, 67, 68, 69, 70, 71, 72, 73, 74, 75, 76, 77, 78, 79, 80, 81] (by decide +kernel) (by decide +kernel)
set_option maxRecDepth 20000 in
theorem gX3_asks_X3_no : GoodIn wsX3_asks (wsV RX3 86 RX3 yX3_no wsX3_no) := goodIn_app (goodIn_of _ (by decide +kernel)) ggX3_asks_X3_no
set_option maxRecDepth 20000 in
theorem ggX3_asks_X3_asksOne : GoodIn wsX3_asks wsX3_asksOne := goodIn_r _ [21, 1, 22, 23, 24, 25, 26, 27, 28, 29, 30, 5, 31, 32, 33, 12, 34, 35, 36, 37, 38, 39, 40, 41, 42, 43, 44, 45, 46, 47, 48, 49, 50, 51, 52, 53, 54, 55, 56, 57, 58, 59, 60, 61, 62, 63, 64, 65, 66, 67, 68, 69, 70, 71, 72, 73, 74, 75, 76, 77, 78, 79, 80, 81] (by decide +kernel) (by decide +kernel)
set_option maxRecDepth 20000 in
theorem gX3_asks_X3_asksOne : GoodIn wsX3_asks (wsV RX3 130 RX3 yX3_asksOne wsX3_asksOne) := goodIn_app (goodIn_of _ (by decide +kernel)) ggX3_asks_X3_asksOne
theorem dX3_asks_0 : decode cX3_asks 0 = .ok (.aload_n 0, 1) := by decide +kernel
theorem dX3_asks_1 : decode cX3_asks 1 = .ok (.iload_n 1, 1) := by decide +kernel
theorem dX3_asks_2 : decode cX3_asks 2 = .ok (.invokevirtual 121, 3) := by decide +kernel
theorem dX3_asks_5 : decode cX3_asks 5 = .ok (.ifCond .eq 11, 3) := by decide +kernel
theorem dX3_asks_8 : decode cX3_asks 8 = .ok (.aload_n 0, 1) := by decide +kernel
theorem dX3_asks_9 : decode cX3_asks 9 = .ok (.iload_n 2, 1) := by decide +kernel
theorem dX3_asks_10 : decode cX3_asks 10 = .ok (.invokevirtual 124, 3) := by decide +kernel
theorem dX3_asks_13 : decode cX3_asks 13 = .ok (.ifCond .ne 7, 3) := by decide +kernel
theorem dX3_asks_16 : decode cX3_asks 16 = .ok (.iconst (-1), 1) := by decide +kernel
theorem dX3_asks_17 : decode cX3_asks 17 = .ok (.goto 19, 3) := by decide +kernel
theorem dX3_asks_20 : decode cX3_asks 20 = .ok (.aload_n 0, 1) := by decide +kernel
theorem dX3_asks_21 : decode cX3_asks 21 = .ok (.getfield 127, 3) := by decide +kernel
theorem dX3_asks_24 : decode cX3_asks 24 = .ok (.sipush 999, 3) := by decide +kernel
theorem dX3_asks_27 : decode cX3_asks 27 = .ok (.if_icmp .ne 8, 3) := by decide +kernel
theorem dX3_asks_30 : decode cX3_asks 30 = .ok (.bipush (-6), 2) := by decide +kernel
theorem dX3_asks_32 : decode cX3_asks 32 = .ok (.goto 4, 3) := by decide +kernel
theorem dX3_asks_35 : decode cX3_asks 35 = .ok (.iconst 0, 1) := by decide +kernel
theorem dX3_asks_36 : decode cX3_asks 36 = .ok (.istore_n 3, 1) := by decide +kernel
theorem dX3_asks_37 : decode cX3_asks 37 = .ok (.iload_n 3, 1) := by decide +kernel
theorem dX3_asks_38 : decode cX3_asks 38 = .ok (.ifCond .eq 11, 3) := by decide +kernel
theorem dX3_asks_41 : decode cX3_asks 41 = .ok (.aload_n 0, 1) := by decide +kernel
theorem dX3_asks_42 : decode cX3_asks 42 = .ok (.iload_n 3, 1) := by decide +kernel
theorem dX3_asks_43 : decode cX3_asks 43 = .ok (.invokevirtual 86, 3) := by decide +kernel
theorem dX3_asks_46 : decode cX3_asks 46 = .ok (.goto 9, 3) := by decide +kernel
theorem dX3_asks_49 : decode cX3_asks 49 = .ok (.aload_n 0, 1) := by decide +kernel
theorem dX3_asks_50 : decode cX3_asks 50 = .ok (.iload_n 1, 1) := by decide +kernel
theorem dX3_asks_51 : decode cX3_asks 51 = .ok (.iload_n 2, 1) := by decide +kernel
theorem dX3_asks_52 : decode cX3_asks 52 = .ok (.invokevirtual 130, 3) := by decide +kernel
theorem dX3_asks_55 : decode cX3_asks 55 = .ok (.ireturn, 1) := by decide +kernel
set_option maxRecDepth 20000 in
theorem ggX3_heard_X3_no : GoodIn wsX3_heard wsX3_no := goodIn_r _ [10, 11, 12, 13, 14, 15, 16, 17, 18, 19, 20, 21, 22, 23, 24, 25, 26, 27, 28, 29, 30, 31, 32, 33, 34, 35, 36, 37, 38, 39, 40, 41, 42, 43, 44] (by decide +kernel) (by decide +kernel)
set_option maxRecDepth 20000 in
theorem gX3_heard_X3_no : GoodIn wsX3_heard (wsV RX3 86 RX3 yX3_no wsX3_no) := goodIn_app (goodIn_of _ (by decide +kernel)) ggX3_heard_X3_no
theorem dX3_heard_0 : decode cX3_heard 0 = .ok (.iload_n 1, 1) := by decide +kernel
theorem dX3_heard_1 : decode cX3_heard 1 = .ok (.ifCond .lt 11, 3) := by decide +kernel
theorem dX3_heard_4 : decode cX3_heard 4 = .ok (.iload_n 1, 1) := by decide +kernel
theorem dX3_heard_5 : decode cX3_heard 5 = .ok (.aload_n 0, 1) := by decide +kernel
theorem dX3_heard_6 : decode cX3_heard 6 = .ok (.getfield 146, 3) := by decide +kernel
theorem dX3_heard_9 : decode cX3_heard 9 = .ok (.if_icmp .lt 9, 3) := by decide +kernel
theorem dX3_heard_12 : decode cX3_heard 12 = .ok (.aload_n 0, 1) := by decide +kernel
theorem dX3_heard_13 : decode cX3_heard 13 = .ok (.iconst (-1), 1) := by decide +kernel
theorem dX3_heard_14 : decode cX3_heard 14 = .ok (.invokevirtual 86, 3) := by decide +kernel
theorem dX3_heard_17 : decode cX3_heard 17 = .ok (.ireturn, 1) := by decide +kernel
theorem dX3_heard_18 : decode cX3_heard 18 = .ok (.iload_n 2, 1) := by decide +kernel
theorem dX3_heard_19 : decode cX3_heard 19 = .ok (.tableswitch 57 0 3 #[29, 36, 43, 50], 29) := by decide +kernel
theorem dX3_heard_48 : decode cX3_heard 48 = .ok (.aload_n 0, 1) := by decide +kernel
theorem dX3_heard_49 : decode cX3_heard 49 = .ok (.getfield 31, 3) := by decide +kernel
theorem dX3_heard_52 : decode cX3_heard 52 = .ok (.iload_n 1, 1) := by decide +kernel
theorem dX3_heard_53 : decode cX3_heard 53 = .ok (.iaload, 1) := by decide +kernel
theorem dX3_heard_54 : decode cX3_heard 54 = .ok (.ireturn, 1) := by decide +kernel
theorem dX3_heard_55 : decode cX3_heard 55 = .ok (.aload_n 0, 1) := by decide +kernel
theorem dX3_heard_56 : decode cX3_heard 56 = .ok (.getfield 34, 3) := by decide +kernel
theorem dX3_heard_59 : decode cX3_heard 59 = .ok (.iload_n 1, 1) := by decide +kernel
theorem dX3_heard_60 : decode cX3_heard 60 = .ok (.iaload, 1) := by decide +kernel
theorem dX3_heard_61 : decode cX3_heard 61 = .ok (.ireturn, 1) := by decide +kernel
theorem dX3_heard_62 : decode cX3_heard 62 = .ok (.aload_n 0, 1) := by decide +kernel
theorem dX3_heard_63 : decode cX3_heard 63 = .ok (.getfield 37, 3) := by decide +kernel
theorem dX3_heard_66 : decode cX3_heard 66 = .ok (.iload_n 1, 1) := by decide +kernel
theorem dX3_heard_67 : decode cX3_heard 67 = .ok (.iaload, 1) := by decide +kernel
theorem dX3_heard_68 : decode cX3_heard 68 = .ok (.ireturn, 1) := by decide +kernel
theorem dX3_heard_69 : decode cX3_heard 69 = .ok (.aload_n 0, 1) := by decide +kernel
theorem dX3_heard_70 : decode cX3_heard 70 = .ok (.getfield 40, 3) := by decide +kernel
theorem dX3_heard_73 : decode cX3_heard 73 = .ok (.iload_n 1, 1) := by decide +kernel
theorem dX3_heard_74 : decode cX3_heard 74 = .ok (.iaload, 1) := by decide +kernel
theorem dX3_heard_75 : decode cX3_heard 75 = .ok (.ireturn, 1) := by decide +kernel
theorem dX3_heard_76 : decode cX3_heard 76 = .ok (.aload_n 0, 1) := by decide +kernel
theorem dX3_heard_77 : decode cX3_heard 77 = .ok (.bipush (-2), 2) := by decide +kernel
theorem dX3_heard_79 : decode cX3_heard 79 = .ok (.invokevirtual 86, 3) := by decide +kernel
theorem dX3_heard_82 : decode cX3_heard 82 = .ok (.ireturn, 1) := by decide +kernel
set_option maxRecDepth 20000 in
theorem ggX3_sets_X3_bound : GoodIn wsX3_sets wsX3_bound := goodIn_r _ [5] (by decide +kernel) (by decide +kernel)
set_option maxRecDepth 20000 in
theorem gX3_sets_X3_bound : GoodIn wsX3_sets (va_wsS RX3 79 yX3_bound wsX3_bound) := goodIn_app (goodIn_of _ (by decide +kernel)) ggX3_sets_X3_bound
set_option maxRecDepth 20000 in
theorem ggX3_sets_X3_no : GoodIn wsX3_sets wsX3_no := goodIn_r _ [9, 10, 11, 12, 13, 14, 15, 16, 17, 18, 19, 20, 21, 22, 23, 24, 25, 26, 27, 28, 29, 30, 31, 32, 33, 34, 35, 36, 37, 38, 39, 40, 41, 42, 43] (by decide +kernel) (by decide +kernel)
set_option maxRecDepth 20000 in
theorem gX3_sets_X3_no : GoodIn wsX3_sets (wsV RX3 86 RX3 yX3_no wsX3_no) := goodIn_app (goodIn_of _ (by decide +kernel)) ggX3_sets_X3_no
theorem dX3_sets_0 : decode cX3_sets 0 = .ok (.iload_n 1, 1) := by decide +kernel
theorem dX3_sets_1 : decode cX3_sets 1 = .ok (.iconst 0, 1) := by decide +kernel
theorem dX3_sets_2 : decode cX3_sets 2 = .ok (.bipush 63, 2) := by decide +kernel
theorem dX3_sets_4 : decode cX3_sets 4 = .ok (.invokestatic 79, 3) := by decide +kernel
theorem dX3_sets_7 : decode cX3_sets 7 = .ok (.istore_n 2, 1) := by decide +kernel
theorem dX3_sets_8 : decode cX3_sets 8 = .ok (.iload_n 2, 1) := by decide +kernel
theorem dX3_sets_9 : decode cX3_sets 9 = .ok (.ifCond .eq 9, 3) := by decide +kernel
theorem dX3_sets_12 : decode cX3_sets 12 = .ok (.aload_n 0, 1) := by decide +kernel
theorem dX3_sets_13 : decode cX3_sets 13 = .ok (.iload_n 2, 1) := by decide +kernel
theorem dX3_sets_14 : decode cX3_sets 14 = .ok (.invokevirtual 86, 3) := by decide +kernel
theorem dX3_sets_17 : decode cX3_sets 17 = .ok (.ireturn, 1) := by decide +kernel
theorem dX3_sets_18 : decode cX3_sets 18 = .ok (.aload_n 0, 1) := by decide +kernel
theorem dX3_sets_19 : decode cX3_sets 19 = .ok (.getfield 134, 3) := by decide +kernel
theorem dX3_sets_22 : decode cX3_sets 22 = .ok (.istore_n 3, 1) := by decide +kernel
theorem dX3_sets_23 : decode cX3_sets 23 = .ok (.aload_n 0, 1) := by decide +kernel
theorem dX3_sets_24 : decode cX3_sets 24 = .ok (.iload_n 1, 1) := by decide +kernel
theorem dX3_sets_25 : decode cX3_sets 25 = .ok (.putfield 134, 3) := by decide +kernel
theorem dX3_sets_28 : decode cX3_sets 28 = .ok (.iload_n 3, 1) := by decide +kernel
theorem dX3_sets_29 : decode cX3_sets 29 = .ok (.ireturn, 1) := by decide +kernel
set_option maxRecDepth 20000 in
theorem ggX3_knows_X3_isWitness : GoodIn wsX3_knows wsX3_isWitness := goodIn_r _ [6, 7, 16, 17, 18, 19, 20, 21, 22, 23, 24, 25, 26, 27, 28, 29, 30, 31, 32, 33, 34, 35, 36, 37, 38, 39, 40, 41, 42, 43, 44, 45, 46, 47, 48] (by decide +kernel) (by decide +kernel)
set_option maxRecDepth 20000 in
theorem gX3_knows_X3_isWitness : GoodIn wsX3_knows (wsV RX3 121 RX3 yX3_isWitness wsX3_isWitness) := goodIn_app (goodIn_of _ (by decide +kernel)) ggX3_knows_X3_isWitness
set_option maxRecDepth 20000 in
theorem ggX3_knows_X3_bound : GoodIn wsX3_knows wsX3_bound := goodIn_r _ [10] (by decide +kernel) (by decide +kernel)
set_option maxRecDepth 20000 in
theorem gX3_knows_X3_bound : GoodIn wsX3_knows (va_wsS RX3 79 yX3_bound wsX3_bound) := goodIn_app (goodIn_of _ (by decide +kernel)) ggX3_knows_X3_bound
set_option maxRecDepth 20000 in
theorem ggX3_knows_X3_no : GoodIn wsX3_knows wsX3_no := goodIn_r _ [14, 15, 16, 17, 18, 19, 20, 21, 22, 23, 24, 25, 26, 27, 28, 29, 30, 31, 32, 33, 34, 35, 36, 37, 38, 39, 40, 41, 42, 43, 44, 45, 46, 47, 48] (by decide +kernel) (by decide +kernel)
set_option maxRecDepth 20000 in
theorem gX3_knows_X3_no : GoodIn wsX3_knows (wsV RX3 86 RX3 yX3_no wsX3_no) := goodIn_app (goodIn_of _ (by decide +kernel)) ggX3_knows_X3_no
theorem dX3_knows_0 : decode cX3_knows 0 = .ok (.aload_n 0, 1) := by decide +kernel
theorem dX3_knows_1 : decode cX3_knows 1 = .ok (.iload_n 1, 1) := by decide +kernel
theorem dX3_knows_2 : decode cX3_knows 2 = .ok (.invokevirtual 121, 3) := by decide +kernel
theorem dX3_knows_5 : decode cX3_knows 5 = .ok (.ifCond .ne 7, 3) := by decide +kernel
theorem dX3_knows_8 : decode cX3_knows 8 = .ok (.iconst (-1), 1) := by decide +kernel
theorem dX3_knows_9 : decode cX3_knows 9 = .ok (.goto 10, 3) := by decide +kernel
theorem dX3_knows_12 : decode cX3_knows 12 = .ok (.iload_n 2, 1) := by decide +kernel
theorem dX3_knows_13 : decode cX3_knows 13 = .ok (.iconst 0, 1) := by decide +kernel
theorem dX3_knows_14 : decode cX3_knows 14 = .ok (.bipush 63, 2) := by decide +kernel
theorem dX3_knows_16 : decode cX3_knows 16 = .ok (.invokestatic 79, 3) := by decide +kernel
theorem dX3_knows_19 : decode cX3_knows 19 = .ok (.istore_n 3, 1) := by decide +kernel
theorem dX3_knows_20 : decode cX3_knows 20 = .ok (.iload_n 3, 1) := by decide +kernel
theorem dX3_knows_21 : decode cX3_knows 21 = .ok (.ifCond .eq 9, 3) := by decide +kernel
theorem dX3_knows_24 : decode cX3_knows 24 = .ok (.aload_n 0, 1) := by decide +kernel
theorem dX3_knows_25 : decode cX3_knows 25 = .ok (.iload_n 3, 1) := by decide +kernel
theorem dX3_knows_26 : decode cX3_knows 26 = .ok (.invokevirtual 86, 3) := by decide +kernel
theorem dX3_knows_29 : decode cX3_knows 29 = .ok (.ireturn, 1) := by decide +kernel
theorem dX3_knows_30 : decode cX3_knows 30 = .ok (.aload_n 0, 1) := by decide +kernel
theorem dX3_knows_31 : decode cX3_knows 31 = .ok (.getfield 28, 3) := by decide +kernel
theorem dX3_knows_34 : decode cX3_knows 34 = .ok (.iload_n 1, 1) := by decide +kernel
theorem dX3_knows_35 : decode cX3_knows 35 = .ok (.iaload, 1) := by decide +kernel
theorem dX3_knows_36 : decode cX3_knows 36 = .ok (.istore 4, 2) := by decide +kernel
theorem dX3_knows_38 : decode cX3_knows 38 = .ok (.aload_n 0, 1) := by decide +kernel
theorem dX3_knows_39 : decode cX3_knows 39 = .ok (.getfield 28, 3) := by decide +kernel
theorem dX3_knows_42 : decode cX3_knows 42 = .ok (.iload_n 1, 1) := by decide +kernel
theorem dX3_knows_43 : decode cX3_knows 43 = .ok (.iload_n 2, 1) := by decide +kernel
theorem dX3_knows_44 : decode cX3_knows 44 = .ok (.iastore, 1) := by decide +kernel
theorem dX3_knows_45 : decode cX3_knows 45 = .ok (.iload 4, 2) := by decide +kernel
theorem dX3_knows_47 : decode cX3_knows 47 = .ok (.ireturn, 1) := by decide +kernel
set_option maxRecDepth 20000 in
theorem ggX3_turn_X3_isWitness : GoodIn wsX3_turn wsX3_isWitness := goodIn_r _ [7, 8, 20, 21, 22, 23, 24, 25, 26, 27, 28, 29, 30, 31, 32, 33, 34, 35, 36, 37, 38, 39, 40, 41, 42, 43, 44, 45, 46, 47, 48, 49, 50, 51, 52] (by decide +kernel) (by decide +kernel)
set_option maxRecDepth 20000 in
theorem gX3_turn_X3_isWitness : GoodIn wsX3_turn (wsV RX3 121 RX3 yX3_isWitness wsX3_isWitness) := goodIn_app (goodIn_of _ (by decide +kernel)) ggX3_turn_X3_isWitness
set_option maxRecDepth 20000 in
theorem ggX3_turn_X3_isIn : GoodIn wsX3_turn wsX3_isIn := goodIn_r _ [11] (by decide +kernel) (by decide +kernel)
set_option maxRecDepth 20000 in
theorem gX3_turn_X3_isIn : GoodIn wsX3_turn (va_wsS RX3 97 yX3_isIn wsX3_isIn) := goodIn_app (goodIn_of _ (by decide +kernel)) ggX3_turn_X3_isIn
set_option maxRecDepth 20000 in
theorem ggX3_turn_X3_bound : GoodIn wsX3_turn wsX3_bound := goodIn_r _ [14] (by decide +kernel) (by decide +kernel)
set_option maxRecDepth 20000 in
theorem gX3_turn_X3_bound : GoodIn wsX3_turn (va_wsS RX3 79 yX3_bound wsX3_bound) := goodIn_app (goodIn_of _ (by decide +kernel)) ggX3_turn_X3_bound
set_option maxRecDepth 20000 in
theorem ggX3_turn_X3_no : GoodIn wsX3_turn wsX3_no := goodIn_r _ [18, 19, 20, 21, 22, 23, 24, 25, 26, 27, 28, 29, 30, 31, 32, 33, 34, 35, 36, 37, 38, 39, 40, 41, 42, 43, 44, 45, 46, 47, 48, 49, 50, 51, 52] (by decide +kernel) (by decide +kernel)
set_option maxRecDepth 20000 in
theorem gX3_turn_X3_no : GoodIn wsX3_turn (wsV RX3 86 RX3 yX3_no wsX3_no) := goodIn_app (goodIn_of _ (by decide +kernel)) ggX3_turn_X3_no
theorem dX3_turn_0 : decode cX3_turn 0 = .ok (.aload_n 0, 1) := by decide +kernel
theorem dX3_turn_1 : decode cX3_turn 1 = .ok (.iload_n 1, 1) := by decide +kernel
theorem dX3_turn_2 : decode cX3_turn 2 = .ok (.invokevirtual 121, 3) := by decide +kernel
theorem dX3_turn_5 : decode cX3_turn 5 = .ok (.ifCond .ne 7, 3) := by decide +kernel
theorem dX3_turn_8 : decode cX3_turn 8 = .ok (.iconst (-1), 1) := by decide +kernel
theorem dX3_turn_9 : decode cX3_turn 9 = .ok (.goto 24, 3) := by decide +kernel
theorem dX3_turn_12 : decode cX3_turn 12 = .ok (.iload_n 2, 1) := by decide +kernel
theorem dX3_turn_13 : decode cX3_turn 13 = .ok (.iconst 0, 1) := by decide +kernel
theorem dX3_turn_14 : decode cX3_turn 14 = .ok (.iconst 5, 1) := by decide +kernel
theorem dX3_turn_15 : decode cX3_turn 15 = .ok (.invokestatic 97, 3) := by decide +kernel
theorem dX3_turn_18 : decode cX3_turn 18 = .ok (.ifCond .ne 8, 3) := by decide +kernel
theorem dX3_turn_21 : decode cX3_turn 21 = .ok (.bipush (-2), 2) := by decide +kernel
theorem dX3_turn_23 : decode cX3_turn 23 = .ok (.goto 10, 3) := by decide +kernel
theorem dX3_turn_26 : decode cX3_turn 26 = .ok (.iload_n 3, 1) := by decide +kernel
theorem dX3_turn_27 : decode cX3_turn 27 = .ok (.iconst 0, 1) := by decide +kernel
theorem dX3_turn_28 : decode cX3_turn 28 = .ok (.bipush 9, 2) := by decide +kernel
theorem dX3_turn_30 : decode cX3_turn 30 = .ok (.invokestatic 79, 3) := by decide +kernel
theorem dX3_turn_33 : decode cX3_turn 33 = .ok (.istore 4, 2) := by decide +kernel
theorem dX3_turn_35 : decode cX3_turn 35 = .ok (.iload 4, 2) := by decide +kernel
theorem dX3_turn_37 : decode cX3_turn 37 = .ok (.ifCond .eq 10, 3) := by decide +kernel
theorem dX3_turn_40 : decode cX3_turn 40 = .ok (.aload_n 0, 1) := by decide +kernel
theorem dX3_turn_41 : decode cX3_turn 41 = .ok (.iload 4, 2) := by decide +kernel
theorem dX3_turn_43 : decode cX3_turn 43 = .ok (.invokevirtual 86, 3) := by decide +kernel
theorem dX3_turn_46 : decode cX3_turn 46 = .ok (.ireturn, 1) := by decide +kernel
theorem dX3_turn_47 : decode cX3_turn 47 = .ok (.bipush 10, 2) := by decide +kernel
theorem dX3_turn_49 : decode cX3_turn 49 = .ok (.aload_n 0, 1) := by decide +kernel
theorem dX3_turn_50 : decode cX3_turn 50 = .ok (.getfield 22, 3) := by decide +kernel
theorem dX3_turn_53 : decode cX3_turn 53 = .ok (.iload_n 1, 1) := by decide +kernel
theorem dX3_turn_54 : decode cX3_turn 54 = .ok (.iaload, 1) := by decide +kernel
theorem dX3_turn_55 : decode cX3_turn 55 = .ok (.imul, 1) := by decide +kernel
theorem dX3_turn_56 : decode cX3_turn 56 = .ok (.aload_n 0, 1) := by decide +kernel
theorem dX3_turn_57 : decode cX3_turn 57 = .ok (.getfield 25, 3) := by decide +kernel
theorem dX3_turn_60 : decode cX3_turn 60 = .ok (.iload_n 1, 1) := by decide +kernel
theorem dX3_turn_61 : decode cX3_turn 61 = .ok (.iaload, 1) := by decide +kernel
theorem dX3_turn_62 : decode cX3_turn 62 = .ok (.iadd, 1) := by decide +kernel
theorem dX3_turn_63 : decode cX3_turn 63 = .ok (.istore 5, 2) := by decide +kernel
theorem dX3_turn_65 : decode cX3_turn 65 = .ok (.aload_n 0, 1) := by decide +kernel
theorem dX3_turn_66 : decode cX3_turn 66 = .ok (.getfield 22, 3) := by decide +kernel
theorem dX3_turn_69 : decode cX3_turn 69 = .ok (.iload_n 1, 1) := by decide +kernel
theorem dX3_turn_70 : decode cX3_turn 70 = .ok (.iload_n 2, 1) := by decide +kernel
theorem dX3_turn_71 : decode cX3_turn 71 = .ok (.iastore, 1) := by decide +kernel
theorem dX3_turn_72 : decode cX3_turn 72 = .ok (.aload_n 0, 1) := by decide +kernel
theorem dX3_turn_73 : decode cX3_turn 73 = .ok (.getfield 25, 3) := by decide +kernel
theorem dX3_turn_76 : decode cX3_turn 76 = .ok (.iload_n 1, 1) := by decide +kernel
theorem dX3_turn_77 : decode cX3_turn 77 = .ok (.iload_n 3, 1) := by decide +kernel
theorem dX3_turn_78 : decode cX3_turn 78 = .ok (.iastore, 1) := by decide +kernel
theorem dX3_turn_79 : decode cX3_turn 79 = .ok (.iload 5, 2) := by decide +kernel
theorem dX3_turn_81 : decode cX3_turn 81 = .ok (.ireturn, 1) := by decide +kernel
theorem dX3_empties_0 : decode cX3_empties 0 = .ok (.aload_n 0, 1) := by decide +kernel
theorem dX3_empties_1 : decode cX3_empties 1 = .ok (.getfield 146, 3) := by decide +kernel
theorem dX3_empties_4 : decode cX3_empties 4 = .ok (.istore_n 1, 1) := by decide +kernel
theorem dX3_empties_5 : decode cX3_empties 5 = .ok (.aload_n 0, 1) := by decide +kernel
theorem dX3_empties_6 : decode cX3_empties 6 = .ok (.iconst 0, 1) := by decide +kernel
theorem dX3_empties_7 : decode cX3_empties 7 = .ok (.putfield 146, 3) := by decide +kernel
theorem dX3_empties_10 : decode cX3_empties 10 = .ok (.iload_n 1, 1) := by decide +kernel
theorem dX3_empties_11 : decode cX3_empties 11 = .ok (.ireturn, 1) := by decide +kernel
set_option maxRecDepth 20000 in
theorem ggX3_answer_X3_isWitness : GoodIn wsX3_answer wsX3_isWitness := goodIn_r _ [7, 8, 43, 44, 45, 46, 47, 48, 49, 50, 51, 52, 53, 54, 55, 56, 57, 58, 59, 60, 61, 62, 63, 64, 65, 66, 67, 68, 69, 70, 71, 72, 73, 74, 75] (by decide +kernel) (by decide +kernel)
set_option maxRecDepth 20000 in
theorem gX3_answer_X3_isWitness : GoodIn wsX3_answer (wsV RX3 121 RX3 yX3_isWitness wsX3_isWitness) := goodIn_app (goodIn_of _ (by decide +kernel)) ggX3_answer_X3_isWitness
set_option maxRecDepth 20000 in
theorem ggX3_answer_X3_isQuestion : GoodIn wsX3_answer wsX3_isQuestion := goodIn_r _ [12, 13, 43, 44, 45, 46, 47, 48, 49, 50, 51, 52, 53, 54, 55, 56, 57, 58, 59, 60, 61, 62, 63, 64, 65, 66, 67, 68, 69, 70, 71, 72, 73, 74, 75] (by decide +kernel) (by decide +kernel)
set_option maxRecDepth 20000 in
theorem gX3_answer_X3_isQuestion : GoodIn wsX3_answer (wsV RX3 124 RX3 yX3_isQuestion wsX3_isQuestion) := goodIn_app (goodIn_of _ (by decide +kernel)) ggX3_answer_X3_isQuestion
set_option maxRecDepth 20000 in
theorem ggX3_answer_X3_bound : GoodIn wsX3_answer wsX3_bound := goodIn_r _ [16] (by decide +kernel) (by decide +kernel)
set_option maxRecDepth 20000 in
theorem gX3_answer_X3_bound : GoodIn wsX3_answer (va_wsS RX3 79 yX3_bound wsX3_bound) := goodIn_app (goodIn_of _ (by decide +kernel)) ggX3_answer_X3_bound
set_option maxRecDepth 20000 in
theorem ggX3_answer_X3_no : GoodIn wsX3_answer wsX3_no := goodIn_r _ [20, 21, 43, 44, 45, 46, 47, 48, 49, 50, 51, 52, 53, 54, 55, 56, 57, 58, 59, 60, 61, 62, 63, 64, 65, 66, 67, 68, 69, 70, 71, 72, 73, 74, 75] (by decide +kernel) (by decide +kernel)
set_option maxRecDepth 20000 in
theorem gX3_answer_X3_no : GoodIn wsX3_answer (wsV RX3 86 RX3 yX3_no wsX3_no) := goodIn_app (goodIn_of _ (by decide +kernel)) ggX3_answer_X3_no
set_option maxRecDepth 20000 in
theorem ggX3_answer_X3_answerOf : GoodIn wsX3_answer wsX3_answerOf := goodIn_r _ [25, 26, 27, 13, 28, 29, 30, 6, 31, 32, 33, 34, 35, 36, 37, 38, 39, 40, 41, 42, 43, 44, 45, 46, 47, 48, 49, 50, 51, 52, 53, 54, 55, 56, 57, 58, 59, 60, 61, 62, 63, 64, 65, 66, 67, 68, 69, 70, 71, 72, 73, 74, 75] (by decide +kernel) (by decide +kernel)
set_option maxRecDepth 20000 in
theorem gX3_answer_X3_answerOf : GoodIn wsX3_answer (wsV RX3 186 RX3 yX3_answerOf wsX3_answerOf) := goodIn_app (goodIn_of _ (by decide +kernel)) ggX3_answer_X3_answerOf
theorem dX3_answer_0 : decode cX3_answer 0 = .ok (.aload_n 0, 1) := by decide +kernel
theorem dX3_answer_1 : decode cX3_answer 1 = .ok (.iload_n 1, 1) := by decide +kernel
theorem dX3_answer_2 : decode cX3_answer 2 = .ok (.invokevirtual 121, 3) := by decide +kernel
theorem dX3_answer_5 : decode cX3_answer 5 = .ok (.ifCond .eq 11, 3) := by decide +kernel
theorem dX3_answer_8 : decode cX3_answer 8 = .ok (.aload_n 0, 1) := by decide +kernel
theorem dX3_answer_9 : decode cX3_answer 9 = .ok (.iload_n 2, 1) := by decide +kernel
theorem dX3_answer_10 : decode cX3_answer 10 = .ok (.invokevirtual 124, 3) := by decide +kernel
theorem dX3_answer_13 : decode cX3_answer 13 = .ok (.ifCond .ne 7, 3) := by decide +kernel
theorem dX3_answer_16 : decode cX3_answer 16 = .ok (.iconst (-1), 1) := by decide +kernel
theorem dX3_answer_17 : decode cX3_answer 17 = .ok (.goto 10, 3) := by decide +kernel
theorem dX3_answer_20 : decode cX3_answer 20 = .ok (.iload_n 3, 1) := by decide +kernel
theorem dX3_answer_21 : decode cX3_answer 21 = .ok (.iconst (-1), 1) := by decide +kernel
theorem dX3_answer_22 : decode cX3_answer 22 = .ok (.bipush 63, 2) := by decide +kernel
theorem dX3_answer_24 : decode cX3_answer 24 = .ok (.invokestatic 79, 3) := by decide +kernel
theorem dX3_answer_27 : decode cX3_answer 27 = .ok (.istore 4, 2) := by decide +kernel
theorem dX3_answer_29 : decode cX3_answer 29 = .ok (.iload 4, 2) := by decide +kernel
theorem dX3_answer_31 : decode cX3_answer 31 = .ok (.ifCond .eq 10, 3) := by decide +kernel
theorem dX3_answer_34 : decode cX3_answer 34 = .ok (.aload_n 0, 1) := by decide +kernel
theorem dX3_answer_35 : decode cX3_answer 35 = .ok (.iload 4, 2) := by decide +kernel
theorem dX3_answer_37 : decode cX3_answer 37 = .ok (.invokevirtual 86, 3) := by decide +kernel
theorem dX3_answer_40 : decode cX3_answer 40 = .ok (.ireturn, 1) := by decide +kernel
theorem dX3_answer_41 : decode cX3_answer 41 = .ok (.aload_n 0, 1) := by decide +kernel
theorem dX3_answer_42 : decode cX3_answer 42 = .ok (.iload_n 1, 1) := by decide +kernel
theorem dX3_answer_43 : decode cX3_answer 43 = .ok (.iload_n 2, 1) := by decide +kernel
theorem dX3_answer_44 : decode cX3_answer 44 = .ok (.iload_n 3, 1) := by decide +kernel
theorem dX3_answer_45 : decode cX3_answer 45 = .ok (.ifCond .ge 10, 3) := by decide +kernel
theorem dX3_answer_48 : decode cX3_answer 48 = .ok (.aload_n 0, 1) := by decide +kernel
theorem dX3_answer_49 : decode cX3_answer 49 = .ok (.getfield 134, 3) := by decide +kernel
theorem dX3_answer_52 : decode cX3_answer 52 = .ok (.goto 4, 3) := by decide +kernel
theorem dX3_answer_55 : decode cX3_answer 55 = .ok (.iload_n 3, 1) := by decide +kernel
theorem dX3_answer_56 : decode cX3_answer 56 = .ok (.aload_n 0, 1) := by decide +kernel
theorem dX3_answer_57 : decode cX3_answer 57 = .ok (.getfield 127, 3) := by decide +kernel
theorem dX3_answer_60 : decode cX3_answer 60 = .ok (.iconst 1, 1) := by decide +kernel
theorem dX3_answer_61 : decode cX3_answer 61 = .ok (.iadd, 1) := by decide +kernel
theorem dX3_answer_62 : decode cX3_answer 62 = .ok (.invokevirtual 186, 3) := by decide +kernel
theorem dX3_answer_65 : decode cX3_answer 65 = .ok (.ireturn, 1) := by decide +kernel
set_option maxRecDepth 20000 in
theorem ggX3_fitsAll_X3_answerOf : GoodIn wsX3_fitsAll wsX3_answerOf := goodIn_r _ [10, 11, 12, 13, 14, 15, 16, 9, 17, 18, 19, 20, 21, 22, 23, 24, 25, 26, 27, 28, 29, 30, 31, 32, 33, 34, 35, 36, 37, 38, 39, 40, 41, 42, 43, 44, 45, 46, 47, 48, 49, 50, 51, 52, 53, 54, 55, 56, 57, 58, 59, 60, 61] (by decide +kernel) (by decide +kernel)
set_option maxRecDepth 20000 in
theorem gX3_fitsAll_X3_answerOf : GoodIn wsX3_fitsAll (wsV RX3 186 RX3 yX3_answerOf wsX3_answerOf) := goodIn_app (goodIn_of _ (by decide +kernel)) ggX3_fitsAll_X3_answerOf
theorem dX3_fitsAll_0 : decode cX3_fitsAll 0 = .ok (.iconst 0, 1) := by decide +kernel
theorem dX3_fitsAll_1 : decode cX3_fitsAll 1 = .ok (.istore_n 2, 1) := by decide +kernel
theorem dX3_fitsAll_2 : decode cX3_fitsAll 2 = .ok (.iload_n 2, 1) := by decide +kernel
theorem dX3_fitsAll_3 : decode cX3_fitsAll 3 = .ok (.aload_n 0, 1) := by decide +kernel
theorem dX3_fitsAll_4 : decode cX3_fitsAll 4 = .ok (.getfield 146, 3) := by decide +kernel
theorem dX3_fitsAll_7 : decode cX3_fitsAll 7 = .ok (.if_icmp .ge 43, 3) := by decide +kernel
theorem dX3_fitsAll_10 : decode cX3_fitsAll 10 = .ok (.aload_n 0, 1) := by decide +kernel
theorem dX3_fitsAll_11 : decode cX3_fitsAll 11 = .ok (.aload_n 0, 1) := by decide +kernel
theorem dX3_fitsAll_12 : decode cX3_fitsAll 12 = .ok (.getfield 31, 3) := by decide +kernel
theorem dX3_fitsAll_15 : decode cX3_fitsAll 15 = .ok (.iload_n 2, 1) := by decide +kernel
theorem dX3_fitsAll_16 : decode cX3_fitsAll 16 = .ok (.iaload, 1) := by decide +kernel
theorem dX3_fitsAll_17 : decode cX3_fitsAll 17 = .ok (.aload_n 0, 1) := by decide +kernel
theorem dX3_fitsAll_18 : decode cX3_fitsAll 18 = .ok (.getfield 34, 3) := by decide +kernel
theorem dX3_fitsAll_21 : decode cX3_fitsAll 21 = .ok (.iload_n 2, 1) := by decide +kernel
theorem dX3_fitsAll_22 : decode cX3_fitsAll 22 = .ok (.iaload, 1) := by decide +kernel
theorem dX3_fitsAll_23 : decode cX3_fitsAll 23 = .ok (.iload_n 1, 1) := by decide +kernel
theorem dX3_fitsAll_24 : decode cX3_fitsAll 24 = .ok (.aload_n 0, 1) := by decide +kernel
theorem dX3_fitsAll_25 : decode cX3_fitsAll 25 = .ok (.getfield 40, 3) := by decide +kernel
theorem dX3_fitsAll_28 : decode cX3_fitsAll 28 = .ok (.iload_n 2, 1) := by decide +kernel
theorem dX3_fitsAll_29 : decode cX3_fitsAll 29 = .ok (.iaload, 1) := by decide +kernel
theorem dX3_fitsAll_30 : decode cX3_fitsAll 30 = .ok (.invokevirtual 186, 3) := by decide +kernel
theorem dX3_fitsAll_33 : decode cX3_fitsAll 33 = .ok (.aload_n 0, 1) := by decide +kernel
theorem dX3_fitsAll_34 : decode cX3_fitsAll 34 = .ok (.getfield 37, 3) := by decide +kernel
theorem dX3_fitsAll_37 : decode cX3_fitsAll 37 = .ok (.iload_n 2, 1) := by decide +kernel
theorem dX3_fitsAll_38 : decode cX3_fitsAll 38 = .ok (.iaload, 1) := by decide +kernel
theorem dX3_fitsAll_39 : decode cX3_fitsAll 39 = .ok (.if_icmp .eq 5, 3) := by decide +kernel
theorem dX3_fitsAll_42 : decode cX3_fitsAll 42 = .ok (.iconst 0, 1) := by decide +kernel
theorem dX3_fitsAll_43 : decode cX3_fitsAll 43 = .ok (.ireturn, 1) := by decide +kernel
theorem dX3_fitsAll_44 : decode cX3_fitsAll 44 = .ok (.iinc 2 1, 3) := by decide +kernel
theorem dX3_fitsAll_47 : decode cX3_fitsAll 47 = .ok (.goto (-45), 3) := by decide +kernel
theorem dX3_fitsAll_50 : decode cX3_fitsAll 50 = .ok (.iconst 1, 1) := by decide +kernel
theorem dX3_fitsAll_51 : decode cX3_fitsAll 51 = .ok (.ireturn, 1) := by decide +kernel
set_option maxRecDepth 20000 in
theorem ggX3_couldSay_X3_answerOf : GoodIn wsX3_couldSay wsX3_answerOf := goodIn_r _ [9, 10, 11, 1, 12, 13, 14, 8, 15, 16, 17, 18, 19, 20, 21, 22, 23, 24, 25, 26, 27, 28, 29, 30, 31, 32, 33, 34, 35, 36, 37, 38, 39, 40, 41, 42, 43, 44, 45, 46, 47, 48, 49, 50, 51, 52, 53, 54, 55, 56, 57, 58, 59] (by decide +kernel) (by decide +kernel)
set_option maxRecDepth 20000 in
theorem gX3_couldSay_X3_answerOf : GoodIn wsX3_couldSay (wsV RX3 186 RX3 yX3_answerOf wsX3_answerOf) := goodIn_app (goodIn_of _ (by decide +kernel)) ggX3_couldSay_X3_answerOf
theorem dX3_couldSay_0 : decode cX3_couldSay 0 = .ok (.iconst 0, 1) := by decide +kernel
theorem dX3_couldSay_1 : decode cX3_couldSay 1 = .ok (.istore_n 3, 1) := by decide +kernel
theorem dX3_couldSay_2 : decode cX3_couldSay 2 = .ok (.iload_n 3, 1) := by decide +kernel
theorem dX3_couldSay_3 : decode cX3_couldSay 3 = .ok (.aload_n 0, 1) := by decide +kernel
theorem dX3_couldSay_4 : decode cX3_couldSay 4 = .ok (.getfield 70, 3) := by decide +kernel
theorem dX3_couldSay_7 : decode cX3_couldSay 7 = .ok (.if_icmp .ge 38, 3) := by decide +kernel
theorem dX3_couldSay_10 : decode cX3_couldSay 10 = .ok (.aload_n 0, 1) := by decide +kernel
theorem dX3_couldSay_11 : decode cX3_couldSay 11 = .ok (.aload_n 0, 1) := by decide +kernel
theorem dX3_couldSay_12 : decode cX3_couldSay 12 = .ok (.getfield 31, 3) := by decide +kernel
theorem dX3_couldSay_15 : decode cX3_couldSay 15 = .ok (.iload_n 1, 1) := by decide +kernel
theorem dX3_couldSay_16 : decode cX3_couldSay 16 = .ok (.iaload, 1) := by decide +kernel
theorem dX3_couldSay_17 : decode cX3_couldSay 17 = .ok (.iload_n 3, 1) := by decide +kernel
theorem dX3_couldSay_18 : decode cX3_couldSay 18 = .ok (.iload_n 2, 1) := by decide +kernel
theorem dX3_couldSay_19 : decode cX3_couldSay 19 = .ok (.aload_n 0, 1) := by decide +kernel
theorem dX3_couldSay_20 : decode cX3_couldSay 20 = .ok (.getfield 40, 3) := by decide +kernel
theorem dX3_couldSay_23 : decode cX3_couldSay 23 = .ok (.iload_n 1, 1) := by decide +kernel
theorem dX3_couldSay_24 : decode cX3_couldSay 24 = .ok (.iaload, 1) := by decide +kernel
theorem dX3_couldSay_25 : decode cX3_couldSay 25 = .ok (.invokevirtual 186, 3) := by decide +kernel
theorem dX3_couldSay_28 : decode cX3_couldSay 28 = .ok (.aload_n 0, 1) := by decide +kernel
theorem dX3_couldSay_29 : decode cX3_couldSay 29 = .ok (.getfield 37, 3) := by decide +kernel
theorem dX3_couldSay_32 : decode cX3_couldSay 32 = .ok (.iload_n 1, 1) := by decide +kernel
theorem dX3_couldSay_33 : decode cX3_couldSay 33 = .ok (.iaload, 1) := by decide +kernel
theorem dX3_couldSay_34 : decode cX3_couldSay 34 = .ok (.if_icmp .ne 5, 3) := by decide +kernel
theorem dX3_couldSay_37 : decode cX3_couldSay 37 = .ok (.iconst 1, 1) := by decide +kernel
theorem dX3_couldSay_38 : decode cX3_couldSay 38 = .ok (.ireturn, 1) := by decide +kernel
theorem dX3_couldSay_39 : decode cX3_couldSay 39 = .ok (.iinc 3 1, 3) := by decide +kernel
theorem dX3_couldSay_42 : decode cX3_couldSay 42 = .ok (.goto (-40), 3) := by decide +kernel
theorem dX3_couldSay_45 : decode cX3_couldSay 45 = .ok (.iconst 0, 1) := by decide +kernel
theorem dX3_couldSay_46 : decode cX3_couldSay 46 = .ok (.ireturn, 1) := by decide +kernel
set_option maxRecDepth 20000 in
theorem ggX3_fitsJury_X3_couldSay : GoodIn wsX3_fitsJury wsX3_couldSay := goodIn_r _ [6, 7, 8, 9, 10, 11, 12, 13, 5, 14, 15, 16, 17, 18, 19, 20, 21, 22, 23, 24, 25, 26, 27, 28, 29, 30, 31, 32, 33, 34, 35, 36, 37, 38, 39, 40, 41, 42, 43, 44, 45, 46, 47, 48, 49, 50, 51, 52, 53, 54, 55, 56, 57, 58, 59, 60, 61, 62, 63, 64] (by decide +kernel) (by decide +kernel)
set_option maxRecDepth 20000 in
theorem gX3_fitsJury_X3_couldSay : GoodIn wsX3_fitsJury (wsV RX3 190 RX3 yX3_couldSay wsX3_couldSay) := goodIn_app (goodIn_of _ (by decide +kernel)) ggX3_fitsJury_X3_couldSay
theorem dX3_fitsJury_0 : decode cX3_fitsJury 0 = .ok (.iconst 0, 1) := by decide +kernel
theorem dX3_fitsJury_1 : decode cX3_fitsJury 1 = .ok (.istore_n 2, 1) := by decide +kernel
theorem dX3_fitsJury_2 : decode cX3_fitsJury 2 = .ok (.iload_n 2, 1) := by decide +kernel
theorem dX3_fitsJury_3 : decode cX3_fitsJury 3 = .ok (.aload_n 0, 1) := by decide +kernel
theorem dX3_fitsJury_4 : decode cX3_fitsJury 4 = .ok (.getfield 146, 3) := by decide +kernel
theorem dX3_fitsJury_7 : decode cX3_fitsJury 7 = .ok (.if_icmp .ge 20, 3) := by decide +kernel
theorem dX3_fitsJury_10 : decode cX3_fitsJury 10 = .ok (.aload_n 0, 1) := by decide +kernel
theorem dX3_fitsJury_11 : decode cX3_fitsJury 11 = .ok (.iload_n 2, 1) := by decide +kernel
theorem dX3_fitsJury_12 : decode cX3_fitsJury 12 = .ok (.iload_n 1, 1) := by decide +kernel
theorem dX3_fitsJury_13 : decode cX3_fitsJury 13 = .ok (.invokevirtual 190, 3) := by decide +kernel
theorem dX3_fitsJury_16 : decode cX3_fitsJury 16 = .ok (.ifCond .ne 5, 3) := by decide +kernel
theorem dX3_fitsJury_19 : decode cX3_fitsJury 19 = .ok (.iconst 0, 1) := by decide +kernel
theorem dX3_fitsJury_20 : decode cX3_fitsJury 20 = .ok (.ireturn, 1) := by decide +kernel
theorem dX3_fitsJury_21 : decode cX3_fitsJury 21 = .ok (.iinc 2 1, 3) := by decide +kernel
theorem dX3_fitsJury_24 : decode cX3_fitsJury 24 = .ok (.goto (-22), 3) := by decide +kernel
theorem dX3_fitsJury_27 : decode cX3_fitsJury 27 = .ok (.iconst 1, 1) := by decide +kernel
theorem dX3_fitsJury_28 : decode cX3_fitsJury 28 = .ok (.ireturn, 1) := by decide +kernel
set_option maxRecDepth 20000 in
theorem ggX3_findFit_X3_fitsJury : GoodIn wsX3_findFit wsX3_fitsJury := goodIn_r _ [6, 7, 8, 9, 10, 5, 11, 12, 13, 14, 15, 16, 17, 18, 19, 20, 21, 22, 23, 24, 25, 26, 27, 28, 29, 30, 31, 32, 33, 34, 35, 36, 42, 43, 44, 45, 46, 47, 48, 49, 50, 51, 52, 53, 54, 55, 56, 57, 58, 59, 60, 61, 62, 63, 64, 65, 66, 67, 68, 69, 70, 71, 72, 73, 74] (by decide +kernel) (by decide +kernel)
set_option maxRecDepth 20000 in
theorem gX3_findFit_X3_fitsJury : GoodIn wsX3_findFit (wsV RX3 193 RX3 yX3_fitsJury wsX3_fitsJury) := goodIn_app (goodIn_of _ (by decide +kernel)) ggX3_findFit_X3_fitsJury
set_option maxRecDepth 20000 in
theorem ggX3_findFit_X3_fitsAll : GoodIn wsX3_findFit wsX3_fitsAll := goodIn_r _ [40, 7, 13, 41, 14, 15, 16, 17, 18, 5, 19, 20, 21, 12, 22, 23, 24, 25, 26, 27, 28, 29, 30, 31, 32, 33, 34, 35, 36, 42, 43, 44, 45, 46, 47, 48, 49, 50, 51, 52, 53, 54, 55, 56, 57, 58, 59, 60, 61, 62, 63, 64, 65, 66, 67, 68, 69, 70, 71, 72, 73, 74] (by decide +kernel) (by decide +kernel)
set_option maxRecDepth 20000 in
theorem gX3_findFit_X3_fitsAll : GoodIn wsX3_findFit (wsV RX3 196 RX3 yX3_fitsAll wsX3_fitsAll) := goodIn_app (goodIn_of _ (by decide +kernel)) ggX3_findFit_X3_fitsAll
theorem dX3_findFit_0 : decode cX3_findFit 0 = .ok (.iconst 0, 1) := by decide +kernel
theorem dX3_findFit_1 : decode cX3_findFit 1 = .ok (.istore_n 2, 1) := by decide +kernel
theorem dX3_findFit_2 : decode cX3_findFit 2 = .ok (.iload_n 2, 1) := by decide +kernel
theorem dX3_findFit_3 : decode cX3_findFit 3 = .ok (.bipush 64, 2) := by decide +kernel
theorem dX3_findFit_5 : decode cX3_findFit 5 = .ok (.if_icmp .ge 43, 3) := by decide +kernel
theorem dX3_findFit_8 : decode cX3_findFit 8 = .ok (.aload_n 0, 1) := by decide +kernel
theorem dX3_findFit_9 : decode cX3_findFit 9 = .ok (.getfield 58, 3) := by decide +kernel
theorem dX3_findFit_12 : decode cX3_findFit 12 = .ok (.iload_n 2, 1) := by decide +kernel
theorem dX3_findFit_13 : decode cX3_findFit 13 = .ok (.iload_n 1, 1) := by decide +kernel
theorem dX3_findFit_14 : decode cX3_findFit 14 = .ok (.ifCond .eq 14, 3) := by decide +kernel
theorem dX3_findFit_17 : decode cX3_findFit 17 = .ok (.aload_n 0, 1) := by decide +kernel
theorem dX3_findFit_18 : decode cX3_findFit 18 = .ok (.iload_n 2, 1) := by decide +kernel
theorem dX3_findFit_19 : decode cX3_findFit 19 = .ok (.invokevirtual 193, 3) := by decide +kernel
theorem dX3_findFit_22 : decode cX3_findFit 22 = .ok (.ifCond .eq 18, 3) := by decide +kernel
theorem dX3_findFit_25 : decode cX3_findFit 25 = .ok (.goto 11, 3) := by decide +kernel
theorem dX3_findFit_28 : decode cX3_findFit 28 = .ok (.aload_n 0, 1) := by decide +kernel
theorem dX3_findFit_29 : decode cX3_findFit 29 = .ok (.iload_n 2, 1) := by decide +kernel
theorem dX3_findFit_30 : decode cX3_findFit 30 = .ok (.invokevirtual 196, 3) := by decide +kernel
theorem dX3_findFit_33 : decode cX3_findFit 33 = .ok (.ifCond .eq 7, 3) := by decide +kernel
theorem dX3_findFit_36 : decode cX3_findFit 36 = .ok (.iconst 1, 1) := by decide +kernel
theorem dX3_findFit_37 : decode cX3_findFit 37 = .ok (.goto 4, 3) := by decide +kernel
theorem dX3_findFit_40 : decode cX3_findFit 40 = .ok (.iconst 0, 1) := by decide +kernel
theorem dX3_findFit_41 : decode cX3_findFit 41 = .ok (.iastore, 1) := by decide +kernel
theorem dX3_findFit_42 : decode cX3_findFit 42 = .ok (.iinc 2 1, 3) := by decide +kernel
theorem dX3_findFit_45 : decode cX3_findFit 45 = .ok (.goto (-43), 3) := by decide +kernel
theorem dX3_findFit_48 : decode cX3_findFit 48 = .ok (.return_, 1) := by decide +kernel
theorem dX3_manyIn_0 : decode cX3_manyIn 0 = .ok (.iconst 0, 1) := by decide +kernel
theorem dX3_manyIn_1 : decode cX3_manyIn 1 = .ok (.istore_n 1, 1) := by decide +kernel
theorem dX3_manyIn_2 : decode cX3_manyIn 2 = .ok (.iconst 0, 1) := by decide +kernel
theorem dX3_manyIn_3 : decode cX3_manyIn 3 = .ok (.istore_n 2, 1) := by decide +kernel
theorem dX3_manyIn_4 : decode cX3_manyIn 4 = .ok (.iload_n 2, 1) := by decide +kernel
theorem dX3_manyIn_5 : decode cX3_manyIn 5 = .ok (.bipush 64, 2) := by decide +kernel
theorem dX3_manyIn_7 : decode cX3_manyIn 7 = .ok (.if_icmp .ge 15, 3) := by decide +kernel
theorem dX3_manyIn_10 : decode cX3_manyIn 10 = .ok (.iload_n 1, 1) := by decide +kernel
theorem dX3_manyIn_11 : decode cX3_manyIn 11 = .ok (.aload_n 0, 1) := by decide +kernel
theorem dX3_manyIn_12 : decode cX3_manyIn 12 = .ok (.iload_n 2, 1) := by decide +kernel
theorem dX3_manyIn_13 : decode cX3_manyIn 13 = .ok (.iaload, 1) := by decide +kernel
theorem dX3_manyIn_14 : decode cX3_manyIn 14 = .ok (.iadd, 1) := by decide +kernel
theorem dX3_manyIn_15 : decode cX3_manyIn 15 = .ok (.istore_n 1, 1) := by decide +kernel
theorem dX3_manyIn_16 : decode cX3_manyIn 16 = .ok (.iinc 2 1, 3) := by decide +kernel
theorem dX3_manyIn_19 : decode cX3_manyIn 19 = .ok (.goto (-15), 3) := by decide +kernel
theorem dX3_manyIn_22 : decode cX3_manyIn 22 = .ok (.iload_n 1, 1) := by decide +kernel
theorem dX3_manyIn_23 : decode cX3_manyIn 23 = .ok (.ireturn, 1) := by decide +kernel
theorem dX3_leastIn_0 : decode cX3_leastIn 0 = .ok (.iconst 0, 1) := by decide +kernel
theorem dX3_leastIn_1 : decode cX3_leastIn 1 = .ok (.istore_n 1, 1) := by decide +kernel
theorem dX3_leastIn_2 : decode cX3_leastIn 2 = .ok (.iload_n 1, 1) := by decide +kernel
theorem dX3_leastIn_3 : decode cX3_leastIn 3 = .ok (.bipush 64, 2) := by decide +kernel
theorem dX3_leastIn_5 : decode cX3_leastIn 5 = .ok (.if_icmp .ge 18, 3) := by decide +kernel
theorem dX3_leastIn_8 : decode cX3_leastIn 8 = .ok (.aload_n 0, 1) := by decide +kernel
theorem dX3_leastIn_9 : decode cX3_leastIn 9 = .ok (.iload_n 1, 1) := by decide +kernel
theorem dX3_leastIn_10 : decode cX3_leastIn 10 = .ok (.iaload, 1) := by decide +kernel
theorem dX3_leastIn_11 : decode cX3_leastIn 11 = .ok (.iconst 1, 1) := by decide +kernel
theorem dX3_leastIn_12 : decode cX3_leastIn 12 = .ok (.if_icmp .ne 5, 3) := by decide +kernel
theorem dX3_leastIn_15 : decode cX3_leastIn 15 = .ok (.iload_n 1, 1) := by decide +kernel
theorem dX3_leastIn_16 : decode cX3_leastIn 16 = .ok (.ireturn, 1) := by decide +kernel
theorem dX3_leastIn_17 : decode cX3_leastIn 17 = .ok (.iinc 1 1, 3) := by decide +kernel
theorem dX3_leastIn_20 : decode cX3_leastIn 20 = .ok (.goto (-18), 3) := by decide +kernel
theorem dX3_leastIn_23 : decode cX3_leastIn 23 = .ok (.bipush (-9), 2) := by decide +kernel
theorem dX3_leastIn_25 : decode cX3_leastIn 25 = .ok (.ireturn, 1) := by decide +kernel
set_option maxRecDepth 20000 in
theorem ggX3_sureIn_X3_manyIn : GoodIn wsX3_sureIn wsX3_manyIn := goodIn_r _ [4] (by decide +kernel) (by decide +kernel)
set_option maxRecDepth 20000 in
theorem gX3_sureIn_X3_manyIn : GoodIn wsX3_sureIn (va_wsS RX3 199 yX3_manyIn wsX3_manyIn) := goodIn_app (goodIn_of _ (by decide +kernel)) ggX3_sureIn_X3_manyIn
theorem dX3_sureIn_0 : decode cX3_sureIn 0 = .ok (.bipush 63, 2) := by decide +kernel
theorem dX3_sureIn_2 : decode cX3_sureIn 2 = .ok (.istore_n 1, 1) := by decide +kernel
theorem dX3_sureIn_3 : decode cX3_sureIn 3 = .ok (.iconst 0, 1) := by decide +kernel
theorem dX3_sureIn_4 : decode cX3_sureIn 4 = .ok (.istore_n 2, 1) := by decide +kernel
theorem dX3_sureIn_5 : decode cX3_sureIn 5 = .ok (.iconst 0, 1) := by decide +kernel
theorem dX3_sureIn_6 : decode cX3_sureIn 6 = .ok (.istore_n 3, 1) := by decide +kernel
theorem dX3_sureIn_7 : decode cX3_sureIn 7 = .ok (.iload_n 3, 1) := by decide +kernel
theorem dX3_sureIn_8 : decode cX3_sureIn 8 = .ok (.bipush 64, 2) := by decide +kernel
theorem dX3_sureIn_10 : decode cX3_sureIn 10 = .ok (.if_icmp .ge 40, 3) := by decide +kernel
theorem dX3_sureIn_13 : decode cX3_sureIn 13 = .ok (.iload_n 1, 1) := by decide +kernel
theorem dX3_sureIn_14 : decode cX3_sureIn 14 = .ok (.aload_n 0, 1) := by decide +kernel
theorem dX3_sureIn_15 : decode cX3_sureIn 15 = .ok (.iload_n 3, 1) := by decide +kernel
theorem dX3_sureIn_16 : decode cX3_sureIn 16 = .ok (.iaload, 1) := by decide +kernel
theorem dX3_sureIn_17 : decode cX3_sureIn 17 = .ok (.iconst 1, 1) := by decide +kernel
theorem dX3_sureIn_18 : decode cX3_sureIn 18 = .ok (.if_icmp .ne 7, 3) := by decide +kernel
theorem dX3_sureIn_21 : decode cX3_sureIn 21 = .ok (.iload_n 3, 1) := by decide +kernel
theorem dX3_sureIn_22 : decode cX3_sureIn 22 = .ok (.goto 5, 3) := by decide +kernel
theorem dX3_sureIn_25 : decode cX3_sureIn 25 = .ok (.bipush 63, 2) := by decide +kernel
theorem dX3_sureIn_27 : decode cX3_sureIn 27 = .ok (.iand, 1) := by decide +kernel
theorem dX3_sureIn_28 : decode cX3_sureIn 28 = .ok (.istore_n 1, 1) := by decide +kernel
theorem dX3_sureIn_29 : decode cX3_sureIn 29 = .ok (.iload_n 2, 1) := by decide +kernel
theorem dX3_sureIn_30 : decode cX3_sureIn 30 = .ok (.aload_n 0, 1) := by decide +kernel
theorem dX3_sureIn_31 : decode cX3_sureIn 31 = .ok (.iload_n 3, 1) := by decide +kernel
theorem dX3_sureIn_32 : decode cX3_sureIn 32 = .ok (.iaload, 1) := by decide +kernel
theorem dX3_sureIn_33 : decode cX3_sureIn 33 = .ok (.iconst 1, 1) := by decide +kernel
theorem dX3_sureIn_34 : decode cX3_sureIn 34 = .ok (.if_icmp .ne 7, 3) := by decide +kernel
theorem dX3_sureIn_37 : decode cX3_sureIn 37 = .ok (.iload_n 3, 1) := by decide +kernel
theorem dX3_sureIn_38 : decode cX3_sureIn 38 = .ok (.goto 4, 3) := by decide +kernel
theorem dX3_sureIn_41 : decode cX3_sureIn 41 = .ok (.iconst 0, 1) := by decide +kernel
theorem dX3_sureIn_42 : decode cX3_sureIn 42 = .ok (.ior, 1) := by decide +kernel
theorem dX3_sureIn_43 : decode cX3_sureIn 43 = .ok (.istore_n 2, 1) := by decide +kernel
theorem dX3_sureIn_44 : decode cX3_sureIn 44 = .ok (.iinc 3 1, 3) := by decide +kernel
theorem dX3_sureIn_47 : decode cX3_sureIn 47 = .ok (.goto (-40), 3) := by decide +kernel
theorem dX3_sureIn_50 : decode cX3_sureIn 50 = .ok (.aload_n 0, 1) := by decide +kernel
theorem dX3_sureIn_51 : decode cX3_sureIn 51 = .ok (.invokestatic 199, 3) := by decide +kernel
theorem dX3_sureIn_54 : decode cX3_sureIn 54 = .ok (.ifCond .ne 7, 3) := by decide +kernel
theorem dX3_sureIn_57 : decode cX3_sureIn 57 = .ok (.iconst 0, 1) := by decide +kernel
theorem dX3_sureIn_58 : decode cX3_sureIn 58 = .ok (.goto 11, 3) := by decide +kernel
theorem dX3_sureIn_61 : decode cX3_sureIn 61 = .ok (.iload_n 1, 1) := by decide +kernel
theorem dX3_sureIn_62 : decode cX3_sureIn 62 = .ok (.bipush 63, 2) := by decide +kernel
theorem dX3_sureIn_64 : decode cX3_sureIn 64 = .ok (.iload_n 2, 1) := by decide +kernel
theorem dX3_sureIn_65 : decode cX3_sureIn 65 = .ok (.iconst (-1), 1) := by decide +kernel
theorem dX3_sureIn_66 : decode cX3_sureIn 66 = .ok (.ixor, 1) := by decide +kernel
theorem dX3_sureIn_67 : decode cX3_sureIn 67 = .ok (.iand, 1) := by decide +kernel
theorem dX3_sureIn_68 : decode cX3_sureIn 68 = .ok (.ior, 1) := by decide +kernel
theorem dX3_sureIn_69 : decode cX3_sureIn 69 = .ok (.ireturn, 1) := by decide +kernel
set_option maxRecDepth 20000 in
theorem ggX3_manyOrLeast_X3_isIn : GoodIn wsX3_manyOrLeast wsX3_isIn := goodIn_r _ [5] (by decide +kernel) (by decide +kernel)
set_option maxRecDepth 20000 in
theorem gX3_manyOrLeast_X3_isIn : GoodIn wsX3_manyOrLeast (va_wsS RX3 97 yX3_isIn wsX3_isIn) := goodIn_app (goodIn_of _ (by decide +kernel)) ggX3_manyOrLeast_X3_isIn
set_option maxRecDepth 20000 in
theorem ggX3_manyOrLeast_X3_no : GoodIn wsX3_manyOrLeast wsX3_no := goodIn_r _ [9, 10, 17, 18, 19, 20, 21, 22, 23, 24, 25, 26, 27, 28, 29, 30, 31, 32, 33, 34, 35, 36, 37, 38, 39, 40, 41, 42, 43, 44, 45, 46, 47, 48, 49] (by decide +kernel) (by decide +kernel)
set_option maxRecDepth 20000 in
theorem gX3_manyOrLeast_X3_no : GoodIn wsX3_manyOrLeast (wsV RX3 86 RX3 yX3_no wsX3_no) := goodIn_app (goodIn_of _ (by decide +kernel)) ggX3_manyOrLeast_X3_no
set_option maxRecDepth 20000 in
theorem ggX3_manyOrLeast_X3_manyIn : GoodIn wsX3_manyOrLeast wsX3_manyIn := goodIn_r _ [13] (by decide +kernel) (by decide +kernel)
set_option maxRecDepth 20000 in
theorem gX3_manyOrLeast_X3_manyIn : GoodIn wsX3_manyOrLeast (va_wsS RX3 199 yX3_manyIn wsX3_manyIn) := goodIn_app (goodIn_of _ (by decide +kernel)) ggX3_manyOrLeast_X3_manyIn
set_option maxRecDepth 20000 in
theorem ggX3_manyOrLeast_X3_leastIn : GoodIn wsX3_manyOrLeast wsX3_leastIn := goodIn_r _ [16] (by decide +kernel) (by decide +kernel)
set_option maxRecDepth 20000 in
theorem gX3_manyOrLeast_X3_leastIn : GoodIn wsX3_manyOrLeast (va_wsS RX3 203 yX3_leastIn wsX3_leastIn) := goodIn_app (goodIn_of _ (by decide +kernel)) ggX3_manyOrLeast_X3_leastIn
theorem dX3_manyOrLeast_0 : decode cX3_manyOrLeast 0 = .ok (.iload_n 1, 1) := by decide +kernel
theorem dX3_manyOrLeast_1 : decode cX3_manyOrLeast 1 = .ok (.iconst 0, 1) := by decide +kernel
theorem dX3_manyOrLeast_2 : decode cX3_manyOrLeast 2 = .ok (.iconst 1, 1) := by decide +kernel
theorem dX3_manyOrLeast_3 : decode cX3_manyOrLeast 3 = .ok (.invokestatic 97, 3) := by decide +kernel
theorem dX3_manyOrLeast_6 : decode cX3_manyOrLeast 6 = .ok (.ifCond .ne 10, 3) := by decide +kernel
theorem dX3_manyOrLeast_9 : decode cX3_manyOrLeast 9 = .ok (.aload_n 0, 1) := by decide +kernel
theorem dX3_manyOrLeast_10 : decode cX3_manyOrLeast 10 = .ok (.bipush (-2), 2) := by decide +kernel
theorem dX3_manyOrLeast_12 : decode cX3_manyOrLeast 12 = .ok (.invokevirtual 86, 3) := by decide +kernel
theorem dX3_manyOrLeast_15 : decode cX3_manyOrLeast 15 = .ok (.ireturn, 1) := by decide +kernel
theorem dX3_manyOrLeast_16 : decode cX3_manyOrLeast 16 = .ok (.iload_n 1, 1) := by decide +kernel
theorem dX3_manyOrLeast_17 : decode cX3_manyOrLeast 17 = .ok (.ifCond .ne 13, 3) := by decide +kernel
theorem dX3_manyOrLeast_20 : decode cX3_manyOrLeast 20 = .ok (.aload_n 0, 1) := by decide +kernel
theorem dX3_manyOrLeast_21 : decode cX3_manyOrLeast 21 = .ok (.getfield 58, 3) := by decide +kernel
theorem dX3_manyOrLeast_24 : decode cX3_manyOrLeast 24 = .ok (.invokestatic 199, 3) := by decide +kernel
theorem dX3_manyOrLeast_27 : decode cX3_manyOrLeast 27 = .ok (.goto 10, 3) := by decide +kernel
theorem dX3_manyOrLeast_30 : decode cX3_manyOrLeast 30 = .ok (.aload_n 0, 1) := by decide +kernel
theorem dX3_manyOrLeast_31 : decode cX3_manyOrLeast 31 = .ok (.getfield 58, 3) := by decide +kernel
theorem dX3_manyOrLeast_34 : decode cX3_manyOrLeast 34 = .ok (.invokestatic 203, 3) := by decide +kernel
theorem dX3_manyOrLeast_37 : decode cX3_manyOrLeast 37 = .ok (.ireturn, 1) := by decide +kernel
set_option maxRecDepth 20000 in
theorem ggX3_fits_X3_findFit : GoodIn wsX3_fits wsX3_findFit := goodIn_r _ [5, 6, 7, 8, 9, 4, 10, 11, 12, 13, 14, 15, 16, 17, 18, 19, 20, 21, 22, 23, 24, 25, 26, 27, 28, 29, 30, 31, 32, 33, 34, 35, 36, 37, 38, 39, 40, 41, 42, 43, 44, 45, 64, 65, 66, 67, 68, 69, 70, 71, 72, 73, 74, 75, 76, 77, 78, 79, 80, 81, 82, 83, 84, 85, 86, 87, 88, 89, 90, 91, 92, 93, 94, 95, 96] (by decide +kernel) (by decide +kernel)
set_option maxRecDepth 20000 in
theorem gX3_fits_X3_findFit : GoodIn wsX3_fits (wsV RX3 206 RX3 yX3_findFit wsX3_findFit) := goodIn_app (goodIn_of _ (by decide +kernel)) ggX3_fits_X3_findFit
set_option maxRecDepth 20000 in
theorem ggX3_fits_X3_manyOrLeast : GoodIn wsX3_fits wsX3_manyOrLeast := goodIn_r _ [49, 6, 50, 51, 4, 52, 53, 54, 55, 56, 57, 58, 59, 60, 61, 62, 63, 64, 65, 66, 67, 68, 69, 70, 71, 72, 73, 74, 75, 76, 77, 78, 79, 80, 81, 82, 83, 84, 85, 86, 87, 88, 89, 90, 91, 92, 93, 94, 95, 96] (by decide +kernel) (by decide +kernel)
set_option maxRecDepth 20000 in
theorem gX3_fits_X3_manyOrLeast : GoodIn wsX3_fits (wsV RX3 210 RX3 yX3_manyOrLeast wsX3_manyOrLeast) := goodIn_app (goodIn_of _ (by decide +kernel)) ggX3_fits_X3_manyOrLeast
theorem dX3_fits_0 : decode cX3_fits 0 = .ok (.aload_n 0, 1) := by decide +kernel
theorem dX3_fits_1 : decode cX3_fits 1 = .ok (.iconst 0, 1) := by decide +kernel
theorem dX3_fits_2 : decode cX3_fits 2 = .ok (.invokevirtual 206, 3) := by decide +kernel
theorem dX3_fits_5 : decode cX3_fits 5 = .ok (.aload_n 0, 1) := by decide +kernel
theorem dX3_fits_6 : decode cX3_fits 6 = .ok (.iload_n 1, 1) := by decide +kernel
theorem dX3_fits_7 : decode cX3_fits 7 = .ok (.invokevirtual 210, 3) := by decide +kernel
theorem dX3_fits_10 : decode cX3_fits 10 = .ok (.ireturn, 1) := by decide +kernel
set_option maxRecDepth 20000 in
theorem ggX3_jury_X3_findFit : GoodIn wsX3_jury wsX3_findFit := goodIn_r _ [5, 6, 7, 8, 9, 4, 10, 11, 12, 13, 14, 15, 16, 17, 18, 19, 20, 21, 22, 23, 24, 25, 26, 27, 28, 29, 30, 31, 32, 33, 34, 35, 36, 37, 38, 39, 40, 41, 42, 43, 44, 45, 64, 65, 66, 67, 68, 69, 70, 71, 72, 73, 74, 75, 76, 77, 78, 79, 80, 81, 82, 83, 84, 85, 86, 87, 88, 89, 90, 91, 92, 93, 94, 95, 96] (by decide +kernel) (by decide +kernel)
set_option maxRecDepth 20000 in
theorem gX3_jury_X3_findFit : GoodIn wsX3_jury (wsV RX3 206 RX3 yX3_findFit wsX3_findFit) := goodIn_app (goodIn_of _ (by decide +kernel)) ggX3_jury_X3_findFit
set_option maxRecDepth 20000 in
theorem ggX3_jury_X3_manyOrLeast : GoodIn wsX3_jury wsX3_manyOrLeast := goodIn_r _ [49, 6, 50, 51, 4, 52, 53, 54, 55, 56, 57, 58, 59, 60, 61, 62, 63, 64, 65, 66, 67, 68, 69, 70, 71, 72, 73, 74, 75, 76, 77, 78, 79, 80, 81, 82, 83, 84, 85, 86, 87, 88, 89, 90, 91, 92, 93, 94, 95, 96] (by decide +kernel) (by decide +kernel)
set_option maxRecDepth 20000 in
theorem gX3_jury_X3_manyOrLeast : GoodIn wsX3_jury (wsV RX3 210 RX3 yX3_manyOrLeast wsX3_manyOrLeast) := goodIn_app (goodIn_of _ (by decide +kernel)) ggX3_jury_X3_manyOrLeast
theorem dX3_jury_0 : decode cX3_jury 0 = .ok (.aload_n 0, 1) := by decide +kernel
theorem dX3_jury_1 : decode cX3_jury 1 = .ok (.iconst 1, 1) := by decide +kernel
theorem dX3_jury_2 : decode cX3_jury 2 = .ok (.invokevirtual 206, 3) := by decide +kernel
theorem dX3_jury_5 : decode cX3_jury 5 = .ok (.aload_n 0, 1) := by decide +kernel
theorem dX3_jury_6 : decode cX3_jury 6 = .ok (.iload_n 1, 1) := by decide +kernel
theorem dX3_jury_7 : decode cX3_jury 7 = .ok (.invokevirtual 210, 3) := by decide +kernel
theorem dX3_jury_10 : decode cX3_jury 10 = .ok (.ireturn, 1) := by decide +kernel
set_option maxRecDepth 20000 in
theorem ggX3_sure_X3_isIn : GoodIn wsX3_sure wsX3_isIn := goodIn_r _ [5] (by decide +kernel) (by decide +kernel)
set_option maxRecDepth 20000 in
theorem gX3_sure_X3_isIn : GoodIn wsX3_sure (va_wsS RX3 97 yX3_isIn wsX3_isIn) := goodIn_app (goodIn_of _ (by decide +kernel)) ggX3_sure_X3_isIn
set_option maxRecDepth 20000 in
theorem ggX3_sure_X3_no : GoodIn wsX3_sure wsX3_no := goodIn_r _ [9, 10, 60, 61, 62, 63, 64, 65, 66, 67, 68, 69, 70, 71, 72, 73, 74, 75, 76, 77, 78, 79, 80, 81, 82, 83, 84, 85, 86, 87, 88, 89, 90, 91, 92] (by decide +kernel) (by decide +kernel)
set_option maxRecDepth 20000 in
theorem gX3_sure_X3_no : GoodIn wsX3_sure (wsV RX3 86 RX3 yX3_no wsX3_no) := goodIn_app (goodIn_of _ (by decide +kernel)) ggX3_sure_X3_no
set_option maxRecDepth 20000 in
theorem ggX3_sure_X3_findFit : GoodIn wsX3_sure wsX3_findFit := goodIn_r _ [14, 1, 15, 16, 17, 4, 18, 19, 20, 21, 22, 23, 24, 25, 26, 27, 28, 29, 30, 31, 32, 33, 34, 35, 36, 37, 38, 39, 40, 41, 42, 43, 44, 45, 46, 47, 48, 49, 50, 51, 52, 53, 60, 61, 62, 63, 64, 65, 66, 67, 68, 69, 70, 71, 72, 73, 74, 75, 76, 77, 78, 79, 80, 81, 82, 83, 84, 85, 86, 87, 88, 89, 90, 91, 92] (by decide +kernel) (by decide +kernel)
set_option maxRecDepth 20000 in
theorem gX3_sure_X3_findFit : GoodIn wsX3_sure (wsV RX3 206 RX3 yX3_findFit wsX3_findFit) := goodIn_app (goodIn_of _ (by decide +kernel)) ggX3_sure_X3_findFit
set_option maxRecDepth 20000 in
theorem ggX3_sure_X3_sureIn : GoodIn wsX3_sure wsX3_sureIn := goodIn_r _ [56, 57, 58, 4, 59] (by decide +kernel) (by decide +kernel)
set_option maxRecDepth 20000 in
theorem gX3_sure_X3_sureIn : GoodIn wsX3_sure (va_wsS RX3 213 yX3_sureIn wsX3_sureIn) := goodIn_app (goodIn_of _ (by decide +kernel)) ggX3_sure_X3_sureIn
theorem dX3_sure_0 : decode cX3_sure 0 = .ok (.iload_n 1, 1) := by decide +kernel
theorem dX3_sure_1 : decode cX3_sure 1 = .ok (.iconst 0, 1) := by decide +kernel
theorem dX3_sure_2 : decode cX3_sure 2 = .ok (.iconst 1, 1) := by decide +kernel
theorem dX3_sure_3 : decode cX3_sure 3 = .ok (.invokestatic 97, 3) := by decide +kernel
theorem dX3_sure_6 : decode cX3_sure 6 = .ok (.ifCond .ne 10, 3) := by decide +kernel
theorem dX3_sure_9 : decode cX3_sure 9 = .ok (.aload_n 0, 1) := by decide +kernel
theorem dX3_sure_10 : decode cX3_sure 10 = .ok (.bipush (-2), 2) := by decide +kernel
theorem dX3_sure_12 : decode cX3_sure 12 = .ok (.invokevirtual 86, 3) := by decide +kernel
theorem dX3_sure_15 : decode cX3_sure 15 = .ok (.ireturn, 1) := by decide +kernel
theorem dX3_sure_16 : decode cX3_sure 16 = .ok (.aload_n 0, 1) := by decide +kernel
theorem dX3_sure_17 : decode cX3_sure 17 = .ok (.iload_n 1, 1) := by decide +kernel
theorem dX3_sure_18 : decode cX3_sure 18 = .ok (.iconst 1, 1) := by decide +kernel
theorem dX3_sure_19 : decode cX3_sure 19 = .ok (.if_icmp .ne 7, 3) := by decide +kernel
theorem dX3_sure_22 : decode cX3_sure 22 = .ok (.iconst 1, 1) := by decide +kernel
theorem dX3_sure_23 : decode cX3_sure 23 = .ok (.goto 4, 3) := by decide +kernel
theorem dX3_sure_26 : decode cX3_sure 26 = .ok (.iconst 0, 1) := by decide +kernel
theorem dX3_sure_27 : decode cX3_sure 27 = .ok (.invokevirtual 206, 3) := by decide +kernel
theorem dX3_sure_30 : decode cX3_sure 30 = .ok (.aload_n 0, 1) := by decide +kernel
theorem dX3_sure_31 : decode cX3_sure 31 = .ok (.getfield 58, 3) := by decide +kernel
theorem dX3_sure_34 : decode cX3_sure 34 = .ok (.invokestatic 213, 3) := by decide +kernel
theorem dX3_sure_37 : decode cX3_sure 37 = .ok (.ireturn, 1) := by decide +kernel
set_option maxRecDepth 20000 in
theorem ggX3_worstOf_X3_answerOf : GoodIn wsX3_worstOf wsX3_answerOf := goodIn_r _ [7, 8, 9, 10, 11, 12, 13, 6, 14, 15, 16, 17, 18, 19, 20, 21, 22, 23, 24, 25, 26, 27, 28, 29, 30, 31, 32, 33, 34, 35, 36, 37, 38, 39, 40, 41, 42, 43, 44, 45, 46, 47, 48, 49, 50, 51, 52, 53, 54, 55, 56, 57, 58] (by decide +kernel) (by decide +kernel)
set_option maxRecDepth 20000 in
theorem gX3_worstOf_X3_answerOf : GoodIn wsX3_worstOf (wsV RX3 186 RX3 yX3_answerOf wsX3_answerOf) := goodIn_app (goodIn_of _ (by decide +kernel)) ggX3_worstOf_X3_answerOf
theorem dX3_worstOf_0 : decode cX3_worstOf 0 = .ok (.iconst 0, 1) := by decide +kernel
theorem dX3_worstOf_1 : decode cX3_worstOf 1 = .ok (.istore_n 3, 1) := by decide +kernel
theorem dX3_worstOf_2 : decode cX3_worstOf 2 = .ok (.iconst 0, 1) := by decide +kernel
theorem dX3_worstOf_3 : decode cX3_worstOf 3 = .ok (.istore 4, 2) := by decide +kernel
theorem dX3_worstOf_5 : decode cX3_worstOf 5 = .ok (.iload 4, 2) := by decide +kernel
theorem dX3_worstOf_7 : decode cX3_worstOf 7 = .ok (.iconst 3, 1) := by decide +kernel
theorem dX3_worstOf_8 : decode cX3_worstOf 8 = .ok (.if_icmp .ge 81, 3) := by decide +kernel
theorem dX3_worstOf_11 : decode cX3_worstOf 11 = .ok (.iconst 0, 1) := by decide +kernel
theorem dX3_worstOf_12 : decode cX3_worstOf 12 = .ok (.istore 5, 2) := by decide +kernel
theorem dX3_worstOf_14 : decode cX3_worstOf 14 = .ok (.iconst 0, 1) := by decide +kernel
theorem dX3_worstOf_15 : decode cX3_worstOf 15 = .ok (.istore 6, 2) := by decide +kernel
theorem dX3_worstOf_17 : decode cX3_worstOf 17 = .ok (.iload 6, 2) := by decide +kernel
theorem dX3_worstOf_19 : decode cX3_worstOf 19 = .ok (.bipush 64, 2) := by decide +kernel
theorem dX3_worstOf_21 : decode cX3_worstOf 21 = .ok (.if_icmp .ge 49, 3) := by decide +kernel
theorem dX3_worstOf_24 : decode cX3_worstOf 24 = .ok (.iload 5, 2) := by decide +kernel
theorem dX3_worstOf_26 : decode cX3_worstOf 26 = .ok (.aload_n 0, 1) := by decide +kernel
theorem dX3_worstOf_27 : decode cX3_worstOf 27 = .ok (.getfield 58, 3) := by decide +kernel
theorem dX3_worstOf_30 : decode cX3_worstOf 30 = .ok (.iload 6, 2) := by decide +kernel
theorem dX3_worstOf_32 : decode cX3_worstOf 32 = .ok (.iaload, 1) := by decide +kernel
theorem dX3_worstOf_33 : decode cX3_worstOf 33 = .ok (.iconst 1, 1) := by decide +kernel
theorem dX3_worstOf_34 : decode cX3_worstOf 34 = .ok (.if_icmp .ne 26, 3) := by decide +kernel
theorem dX3_worstOf_37 : decode cX3_worstOf 37 = .ok (.aload_n 0, 1) := by decide +kernel
theorem dX3_worstOf_38 : decode cX3_worstOf 38 = .ok (.iload_n 1, 1) := by decide +kernel
theorem dX3_worstOf_39 : decode cX3_worstOf 39 = .ok (.iload_n 2, 1) := by decide +kernel
theorem dX3_worstOf_40 : decode cX3_worstOf 40 = .ok (.iload 6, 2) := by decide +kernel
theorem dX3_worstOf_42 : decode cX3_worstOf 42 = .ok (.aload_n 0, 1) := by decide +kernel
theorem dX3_worstOf_43 : decode cX3_worstOf 43 = .ok (.getfield 127, 3) := by decide +kernel
theorem dX3_worstOf_46 : decode cX3_worstOf 46 = .ok (.iconst 1, 1) := by decide +kernel
theorem dX3_worstOf_47 : decode cX3_worstOf 47 = .ok (.iadd, 1) := by decide +kernel
theorem dX3_worstOf_48 : decode cX3_worstOf 48 = .ok (.invokevirtual 186, 3) := by decide +kernel
theorem dX3_worstOf_51 : decode cX3_worstOf 51 = .ok (.iload 4, 2) := by decide +kernel
theorem dX3_worstOf_53 : decode cX3_worstOf 53 = .ok (.if_icmp .ne 7, 3) := by decide +kernel
theorem dX3_worstOf_56 : decode cX3_worstOf 56 = .ok (.iconst 1, 1) := by decide +kernel
theorem dX3_worstOf_57 : decode cX3_worstOf 57 = .ok (.goto 4, 3) := by decide +kernel
theorem dX3_worstOf_60 : decode cX3_worstOf 60 = .ok (.iconst 0, 1) := by decide +kernel
theorem dX3_worstOf_61 : decode cX3_worstOf 61 = .ok (.iadd, 1) := by decide +kernel
theorem dX3_worstOf_62 : decode cX3_worstOf 62 = .ok (.istore 5, 2) := by decide +kernel
theorem dX3_worstOf_64 : decode cX3_worstOf 64 = .ok (.iinc 6 1, 3) := by decide +kernel
theorem dX3_worstOf_67 : decode cX3_worstOf 67 = .ok (.goto (-50), 3) := by decide +kernel
theorem dX3_worstOf_70 : decode cX3_worstOf 70 = .ok (.iload 5, 2) := by decide +kernel
theorem dX3_worstOf_72 : decode cX3_worstOf 72 = .ok (.iload_n 3, 1) := by decide +kernel
theorem dX3_worstOf_73 : decode cX3_worstOf 73 = .ok (.if_icmp .le 8, 3) := by decide +kernel
theorem dX3_worstOf_76 : decode cX3_worstOf 76 = .ok (.iload 5, 2) := by decide +kernel
theorem dX3_worstOf_78 : decode cX3_worstOf 78 = .ok (.goto 4, 3) := by decide +kernel
theorem dX3_worstOf_81 : decode cX3_worstOf 81 = .ok (.iload_n 3, 1) := by decide +kernel
theorem dX3_worstOf_82 : decode cX3_worstOf 82 = .ok (.istore_n 3, 1) := by decide +kernel
theorem dX3_worstOf_83 : decode cX3_worstOf 83 = .ok (.iinc 4 1, 3) := by decide +kernel
theorem dX3_worstOf_86 : decode cX3_worstOf 86 = .ok (.goto (-81), 3) := by decide +kernel
theorem dX3_worstOf_89 : decode cX3_worstOf 89 = .ok (.iload_n 3, 1) := by decide +kernel
theorem dX3_worstOf_90 : decode cX3_worstOf 90 = .ok (.ireturn, 1) := by decide +kernel
set_option maxRecDepth 20000 in
theorem ggX3_next__X3_isIn : GoodIn wsX3_next_ wsX3_isIn := goodIn_r _ [6] (by decide +kernel) (by decide +kernel)
set_option maxRecDepth 20000 in
theorem gX3_next__X3_isIn : GoodIn wsX3_next_ (va_wsS RX3 97 yX3_isIn wsX3_isIn) := goodIn_app (goodIn_of _ (by decide +kernel)) ggX3_next__X3_isIn
set_option maxRecDepth 20000 in
theorem ggX3_next__X3_no : GoodIn wsX3_next_ wsX3_no := goodIn_r _ [10, 11, 60, 61, 62, 63, 64, 65, 66, 67, 68, 69, 70, 71, 72, 73, 74, 75, 76, 77, 78, 79, 80, 81, 82, 83, 84, 85, 86, 87, 88, 89, 90, 91, 92] (by decide +kernel) (by decide +kernel)
set_option maxRecDepth 20000 in
theorem gX3_next__X3_no : GoodIn wsX3_next_ (wsV RX3 86 RX3 yX3_no wsX3_no) := goodIn_app (goodIn_of _ (by decide +kernel)) ggX3_next__X3_no
set_option maxRecDepth 20000 in
theorem ggX3_next__X3_findFit : GoodIn wsX3_next_ wsX3_findFit := goodIn_r _ [15, 16, 17, 18, 19, 5, 20, 21, 22, 23, 24, 25, 2, 26, 27, 28, 29, 30, 31, 32, 33, 34, 35, 36, 37, 38, 39, 40, 41, 42, 43, 44, 45, 46, 47, 48, 49, 50, 51, 52, 53, 54, 60, 61, 62, 63, 64, 65, 66, 67, 68, 69, 70, 71, 72, 73, 74, 75, 76, 77, 78, 79, 80, 81, 82, 83, 84, 85, 86, 87, 88, 89, 90, 91, 92] (by decide +kernel) (by decide +kernel)
set_option maxRecDepth 20000 in
theorem gX3_next__X3_findFit : GoodIn wsX3_next_ (wsV RX3 206 RX3 yX3_findFit wsX3_findFit) := goodIn_app (goodIn_of _ (by decide +kernel)) ggX3_next__X3_findFit
set_option maxRecDepth 20000 in
theorem ggX3_next__X3_worstOf : GoodIn wsX3_next_ wsX3_worstOf := goodIn_r _ [58, 16, 59, 29, 30, 31, 5, 32, 33, 34, 2, 35, 36, 37, 38, 39, 40, 41, 42, 43, 44, 45, 46, 47, 48, 49, 60, 61, 62, 63, 64, 65, 66, 67, 68, 69, 70, 71, 72, 73, 74, 75, 76, 77, 78, 79, 80, 81, 82, 83, 84, 85, 86, 87, 88, 89, 90, 91, 92] (by decide +kernel) (by decide +kernel)
set_option maxRecDepth 20000 in
theorem gX3_next__X3_worstOf : GoodIn wsX3_next_ (wsV RX3 216 RX3 yX3_worstOf wsX3_worstOf) := goodIn_app (goodIn_of _ (by decide +kernel)) ggX3_next__X3_worstOf
theorem dX3_next__0 : decode cX3_next_ 0 = .ok (.iload_n 1, 1) := by decide +kernel
theorem dX3_next__1 : decode cX3_next_ 1 = .ok (.iconst 0, 1) := by decide +kernel
theorem dX3_next__2 : decode cX3_next_ 2 = .ok (.iconst 1, 1) := by decide +kernel
theorem dX3_next__3 : decode cX3_next_ 3 = .ok (.invokestatic 97, 3) := by decide +kernel
theorem dX3_next__6 : decode cX3_next_ 6 = .ok (.ifCond .ne 10, 3) := by decide +kernel
theorem dX3_next__9 : decode cX3_next_ 9 = .ok (.aload_n 0, 1) := by decide +kernel
theorem dX3_next__10 : decode cX3_next_ 10 = .ok (.bipush (-2), 2) := by decide +kernel
theorem dX3_next__12 : decode cX3_next_ 12 = .ok (.invokevirtual 86, 3) := by decide +kernel
theorem dX3_next__15 : decode cX3_next_ 15 = .ok (.ireturn, 1) := by decide +kernel
theorem dX3_next__16 : decode cX3_next_ 16 = .ok (.aload_n 0, 1) := by decide +kernel
theorem dX3_next__17 : decode cX3_next_ 17 = .ok (.iconst 0, 1) := by decide +kernel
theorem dX3_next__18 : decode cX3_next_ 18 = .ok (.invokevirtual 206, 3) := by decide +kernel
theorem dX3_next__21 : decode cX3_next_ 21 = .ok (.bipush (-9), 2) := by decide +kernel
theorem dX3_next__23 : decode cX3_next_ 23 = .ok (.istore_n 2, 1) := by decide +kernel
theorem dX3_next__24 : decode cX3_next_ 24 = .ok (.bipush (-9), 2) := by decide +kernel
theorem dX3_next__26 : decode cX3_next_ 26 = .ok (.istore_n 3, 1) := by decide +kernel
theorem dX3_next__27 : decode cX3_next_ 27 = .ok (.iconst 0, 1) := by decide +kernel
theorem dX3_next__28 : decode cX3_next_ 28 = .ok (.istore 4, 2) := by decide +kernel
theorem dX3_next__30 : decode cX3_next_ 30 = .ok (.iload 4, 2) := by decide +kernel
theorem dX3_next__32 : decode cX3_next_ 32 = .ok (.aload_n 0, 1) := by decide +kernel
theorem dX3_next__33 : decode cX3_next_ 33 = .ok (.getfield 76, 3) := by decide +kernel
theorem dX3_next__36 : decode cX3_next_ 36 = .ok (.if_icmp .ge 62, 3) := by decide +kernel
theorem dX3_next__39 : decode cX3_next_ 39 = .ok (.iconst 0, 1) := by decide +kernel
theorem dX3_next__40 : decode cX3_next_ 40 = .ok (.istore 5, 2) := by decide +kernel
theorem dX3_next__42 : decode cX3_next_ 42 = .ok (.iload 5, 2) := by decide +kernel
theorem dX3_next__44 : decode cX3_next_ 44 = .ok (.aload_n 0, 1) := by decide +kernel
theorem dX3_next__45 : decode cX3_next_ 45 = .ok (.getfield 70, 3) := by decide +kernel
theorem dX3_next__48 : decode cX3_next_ 48 = .ok (.if_icmp .ge 44, 3) := by decide +kernel
theorem dX3_next__51 : decode cX3_next_ 51 = .ok (.aload_n 0, 1) := by decide +kernel
theorem dX3_next__52 : decode cX3_next_ 52 = .ok (.iload 4, 2) := by decide +kernel
theorem dX3_next__54 : decode cX3_next_ 54 = .ok (.iload 5, 2) := by decide +kernel
theorem dX3_next__56 : decode cX3_next_ 56 = .ok (.invokevirtual 216, 3) := by decide +kernel
theorem dX3_next__59 : decode cX3_next_ 59 = .ok (.istore 6, 2) := by decide +kernel
theorem dX3_next__61 : decode cX3_next_ 61 = .ok (.iload_n 2, 1) := by decide +kernel
theorem dX3_next__62 : decode cX3_next_ 62 = .ok (.ifCond .lt 12, 3) := by decide +kernel
theorem dX3_next__65 : decode cX3_next_ 65 = .ok (.iload 6, 2) := by decide +kernel
theorem dX3_next__67 : decode cX3_next_ 67 = .ok (.iload_n 3, 1) := by decide +kernel
theorem dX3_next__68 : decode cX3_next_ 68 = .ok (.if_icmp .lt 6, 3) := by decide +kernel
theorem dX3_next__71 : decode cX3_next_ 71 = .ok (.goto 15, 3) := by decide +kernel
theorem dX3_next__74 : decode cX3_next_ 74 = .ok (.bipush 10, 2) := by decide +kernel
theorem dX3_next__76 : decode cX3_next_ 76 = .ok (.iload 4, 2) := by decide +kernel
theorem dX3_next__78 : decode cX3_next_ 78 = .ok (.imul, 1) := by decide +kernel
theorem dX3_next__79 : decode cX3_next_ 79 = .ok (.iload 5, 2) := by decide +kernel
theorem dX3_next__81 : decode cX3_next_ 81 = .ok (.iadd, 1) := by decide +kernel
theorem dX3_next__82 : decode cX3_next_ 82 = .ok (.istore_n 2, 1) := by decide +kernel
theorem dX3_next__83 : decode cX3_next_ 83 = .ok (.iload 6, 2) := by decide +kernel
theorem dX3_next__85 : decode cX3_next_ 85 = .ok (.istore_n 3, 1) := by decide +kernel
theorem dX3_next__86 : decode cX3_next_ 86 = .ok (.iinc 5 1, 3) := by decide +kernel
theorem dX3_next__89 : decode cX3_next_ 89 = .ok (.goto (-47), 3) := by decide +kernel
theorem dX3_next__92 : decode cX3_next_ 92 = .ok (.iinc 4 1, 3) := by decide +kernel
theorem dX3_next__95 : decode cX3_next_ 95 = .ok (.goto (-65), 3) := by decide +kernel
theorem dX3_next__98 : decode cX3_next_ 98 = .ok (.iload_n 1, 1) := by decide +kernel
theorem dX3_next__99 : decode cX3_next_ 99 = .ok (.ifCond .ne 7, 3) := by decide +kernel
theorem dX3_next__102 : decode cX3_next_ 102 = .ok (.iload_n 2, 1) := by decide +kernel
theorem dX3_next__103 : decode cX3_next_ 103 = .ok (.goto 4, 3) := by decide +kernel
theorem dX3_next__106 : decode cX3_next_ 106 = .ok (.iload_n 3, 1) := by decide +kernel
theorem dX3_next__107 : decode cX3_next_ 107 = .ok (.ireturn, 1) := by decide +kernel
theorem dX3_startLeft_0 : decode cX3_startLeft 0 = .ok (.iconst 0, 1) := by decide +kernel
theorem dX3_startLeft_1 : decode cX3_startLeft 1 = .ok (.istore_n 1, 1) := by decide +kernel
theorem dX3_startLeft_2 : decode cX3_startLeft 2 = .ok (.iload_n 1, 1) := by decide +kernel
theorem dX3_startLeft_3 : decode cX3_startLeft 3 = .ok (.bipush 64, 2) := by decide +kernel
theorem dX3_startLeft_5 : decode cX3_startLeft 5 = .ok (.if_icmp .ge 21, 3) := by decide +kernel
theorem dX3_startLeft_8 : decode cX3_startLeft 8 = .ok (.aload_n 0, 1) := by decide +kernel
theorem dX3_startLeft_9 : decode cX3_startLeft 9 = .ok (.getfield 61, 3) := by decide +kernel
theorem dX3_startLeft_12 : decode cX3_startLeft 12 = .ok (.iload_n 1, 1) := by decide +kernel
theorem dX3_startLeft_13 : decode cX3_startLeft 13 = .ok (.aload_n 0, 1) := by decide +kernel
theorem dX3_startLeft_14 : decode cX3_startLeft 14 = .ok (.getfield 58, 3) := by decide +kernel
theorem dX3_startLeft_17 : decode cX3_startLeft 17 = .ok (.iload_n 1, 1) := by decide +kernel
theorem dX3_startLeft_18 : decode cX3_startLeft 18 = .ok (.iaload, 1) := by decide +kernel
theorem dX3_startLeft_19 : decode cX3_startLeft 19 = .ok (.iastore, 1) := by decide +kernel
theorem dX3_startLeft_20 : decode cX3_startLeft 20 = .ok (.iinc 1 1, 3) := by decide +kernel
theorem dX3_startLeft_23 : decode cX3_startLeft 23 = .ok (.goto (-21), 3) := by decide +kernel
theorem dX3_startLeft_26 : decode cX3_startLeft 26 = .ok (.return_, 1) := by decide +kernel
set_option maxRecDepth 20000 in
theorem ggX3_asksLeft_X3_answerOf : GoodIn wsX3_asksLeft wsX3_answerOf := goodIn_r _ [7, 8, 9, 10, 11, 12, 13, 6, 14, 15, 16, 17, 18, 19, 20, 21, 22, 23, 24, 25, 26, 27, 28, 29, 30, 31, 32, 33, 34, 35, 36, 37, 38, 39, 40, 41, 42, 43, 44, 45, 46, 47, 48, 49, 50, 51, 52, 53, 54, 55, 56, 57, 58] (by decide +kernel) (by decide +kernel)
set_option maxRecDepth 20000 in
theorem gX3_asksLeft_X3_answerOf : GoodIn wsX3_asksLeft (wsV RX3 186 RX3 yX3_answerOf wsX3_answerOf) := goodIn_app (goodIn_of _ (by decide +kernel)) ggX3_asksLeft_X3_answerOf
theorem dX3_asksLeft_0 : decode cX3_asksLeft 0 = .ok (.aload_n 0, 1) := by decide +kernel
theorem dX3_asksLeft_1 : decode cX3_asksLeft 1 = .ok (.iload_n 1, 1) := by decide +kernel
theorem dX3_asksLeft_2 : decode cX3_asksLeft 2 = .ok (.iload_n 2, 1) := by decide +kernel
theorem dX3_asksLeft_3 : decode cX3_asksLeft 3 = .ok (.aload_n 0, 1) := by decide +kernel
theorem dX3_asksLeft_4 : decode cX3_asksLeft 4 = .ok (.getfield 134, 3) := by decide +kernel
theorem dX3_asksLeft_7 : decode cX3_asksLeft 7 = .ok (.iload_n 3, 1) := by decide +kernel
theorem dX3_asksLeft_8 : decode cX3_asksLeft 8 = .ok (.invokevirtual 186, 3) := by decide +kernel
theorem dX3_asksLeft_11 : decode cX3_asksLeft 11 = .ok (.istore 4, 2) := by decide +kernel
theorem dX3_asksLeft_13 : decode cX3_asksLeft 13 = .ok (.iconst 0, 1) := by decide +kernel
theorem dX3_asksLeft_14 : decode cX3_asksLeft 14 = .ok (.istore 5, 2) := by decide +kernel
theorem dX3_asksLeft_16 : decode cX3_asksLeft 16 = .ok (.iload 5, 2) := by decide +kernel
theorem dX3_asksLeft_18 : decode cX3_asksLeft 18 = .ok (.bipush 64, 2) := by decide +kernel
theorem dX3_asksLeft_20 : decode cX3_asksLeft 20 = .ok (.if_icmp .ge 46, 3) := by decide +kernel
theorem dX3_asksLeft_23 : decode cX3_asksLeft 23 = .ok (.aload_n 0, 1) := by decide +kernel
theorem dX3_asksLeft_24 : decode cX3_asksLeft 24 = .ok (.getfield 61, 3) := by decide +kernel
theorem dX3_asksLeft_27 : decode cX3_asksLeft 27 = .ok (.iload 5, 2) := by decide +kernel
theorem dX3_asksLeft_29 : decode cX3_asksLeft 29 = .ok (.aload_n 0, 1) := by decide +kernel
theorem dX3_asksLeft_30 : decode cX3_asksLeft 30 = .ok (.getfield 61, 3) := by decide +kernel
theorem dX3_asksLeft_33 : decode cX3_asksLeft 33 = .ok (.iload 5, 2) := by decide +kernel
theorem dX3_asksLeft_35 : decode cX3_asksLeft 35 = .ok (.iaload, 1) := by decide +kernel
theorem dX3_asksLeft_36 : decode cX3_asksLeft 36 = .ok (.iconst 1, 1) := by decide +kernel
theorem dX3_asksLeft_37 : decode cX3_asksLeft 37 = .ok (.if_icmp .ne 21, 3) := by decide +kernel
theorem dX3_asksLeft_40 : decode cX3_asksLeft 40 = .ok (.aload_n 0, 1) := by decide +kernel
theorem dX3_asksLeft_41 : decode cX3_asksLeft 41 = .ok (.iload_n 1, 1) := by decide +kernel
theorem dX3_asksLeft_42 : decode cX3_asksLeft 42 = .ok (.iload_n 2, 1) := by decide +kernel
theorem dX3_asksLeft_43 : decode cX3_asksLeft 43 = .ok (.iload 5, 2) := by decide +kernel
theorem dX3_asksLeft_45 : decode cX3_asksLeft 45 = .ok (.iload_n 3, 1) := by decide +kernel
theorem dX3_asksLeft_46 : decode cX3_asksLeft 46 = .ok (.invokevirtual 186, 3) := by decide +kernel
theorem dX3_asksLeft_49 : decode cX3_asksLeft 49 = .ok (.iload 4, 2) := by decide +kernel
theorem dX3_asksLeft_51 : decode cX3_asksLeft 51 = .ok (.if_icmp .ne 7, 3) := by decide +kernel
theorem dX3_asksLeft_54 : decode cX3_asksLeft 54 = .ok (.iconst 1, 1) := by decide +kernel
theorem dX3_asksLeft_55 : decode cX3_asksLeft 55 = .ok (.goto 4, 3) := by decide +kernel
theorem dX3_asksLeft_58 : decode cX3_asksLeft 58 = .ok (.iconst 0, 1) := by decide +kernel
theorem dX3_asksLeft_59 : decode cX3_asksLeft 59 = .ok (.iastore, 1) := by decide +kernel
theorem dX3_asksLeft_60 : decode cX3_asksLeft 60 = .ok (.iinc 5 1, 3) := by decide +kernel
theorem dX3_asksLeft_63 : decode cX3_asksLeft 63 = .ok (.goto (-47), 3) := by decide +kernel
theorem dX3_asksLeft_66 : decode cX3_asksLeft 66 = .ok (.return_, 1) := by decide +kernel
theorem dX3_power_0 : decode cX3_power 0 = .ok (.iconst 1, 1) := by decide +kernel
theorem dX3_power_1 : decode cX3_power 1 = .ok (.istore_n 2, 1) := by decide +kernel
theorem dX3_power_2 : decode cX3_power 2 = .ok (.iconst 0, 1) := by decide +kernel
theorem dX3_power_3 : decode cX3_power 3 = .ok (.istore_n 3, 1) := by decide +kernel
theorem dX3_power_4 : decode cX3_power 4 = .ok (.iload_n 3, 1) := by decide +kernel
theorem dX3_power_5 : decode cX3_power 5 = .ok (.iload_n 1, 1) := by decide +kernel
theorem dX3_power_6 : decode cX3_power 6 = .ok (.if_icmp .ge 13, 3) := by decide +kernel
theorem dX3_power_9 : decode cX3_power 9 = .ok (.iload_n 2, 1) := by decide +kernel
theorem dX3_power_10 : decode cX3_power 10 = .ok (.iload_n 0, 1) := by decide +kernel
theorem dX3_power_11 : decode cX3_power 11 = .ok (.imul, 1) := by decide +kernel
theorem dX3_power_12 : decode cX3_power 12 = .ok (.istore_n 2, 1) := by decide +kernel
theorem dX3_power_13 : decode cX3_power 13 = .ok (.iinc 3 1, 3) := by decide +kernel
theorem dX3_power_16 : decode cX3_power 16 = .ok (.goto (-12), 3) := by decide +kernel
theorem dX3_power_19 : decode cX3_power 19 = .ok (.iload_n 2, 1) := by decide +kernel
theorem dX3_power_20 : decode cX3_power 20 = .ok (.ireturn, 1) := by decide +kernel
set_option maxRecDepth 20000 in
theorem ggX3_isSettled_X3_startLeft : GoodIn wsX3_isSettled wsX3_startLeft := goodIn_r _ [8, 3, 9, 45, 46, 47, 48, 49, 50, 51, 52, 53, 54, 55, 56, 57, 58, 59, 60, 61, 62, 63, 64, 65, 66, 67, 68, 69, 70, 71, 72, 73, 74, 75, 76, 77] (by decide +kernel) (by decide +kernel)
set_option maxRecDepth 20000 in
theorem gX3_isSettled_X3_startLeft : GoodIn wsX3_isSettled (wsV RX3 219 RX3 yX3_startLeft wsX3_startLeft) := goodIn_app (goodIn_of _ (by decide +kernel)) ggX3_isSettled_X3_startLeft
set_option maxRecDepth 20000 in
theorem ggX3_isSettled_X3_power : GoodIn wsX3_isSettled wsX3_power := goodIn_r _ [12] (by decide +kernel) (by decide +kernel)
set_option maxRecDepth 20000 in
theorem gX3_isSettled_X3_power : GoodIn wsX3_isSettled (va_wsS RX3 222 yX3_power wsX3_power) := goodIn_app (goodIn_of _ (by decide +kernel)) ggX3_isSettled_X3_power
set_option maxRecDepth 20000 in
theorem ggX3_isSettled_X3_asksLeft : GoodIn wsX3_isSettled wsX3_asksLeft := goodIn_r _ [16, 17, 3, 18, 19, 20, 7, 21, 22, 23, 1, 24, 25, 26, 27, 28, 29, 30, 31, 32, 33, 34, 35, 36, 37, 38, 45, 46, 47, 48, 49, 50, 51, 52, 53, 54, 55, 56, 57, 58, 59, 60, 61, 62, 63, 64, 65, 66, 67, 68, 69, 70, 71, 72, 73, 74, 75, 76, 77] (by decide +kernel) (by decide +kernel)
set_option maxRecDepth 20000 in
theorem gX3_isSettled_X3_asksLeft : GoodIn wsX3_isSettled (wsV RX3 225 RX3 yX3_asksLeft wsX3_asksLeft) := goodIn_app (goodIn_of _ (by decide +kernel)) ggX3_isSettled_X3_asksLeft
set_option maxRecDepth 20000 in
theorem ggX3_isSettled_X3_sureIn : GoodIn wsX3_isSettled wsX3_sureIn := goodIn_r _ [41, 42, 43, 7, 44] (by decide +kernel) (by decide +kernel)
set_option maxRecDepth 20000 in
theorem gX3_isSettled_X3_sureIn : GoodIn wsX3_isSettled (va_wsS RX3 213 yX3_sureIn wsX3_sureIn) := goodIn_app (goodIn_of _ (by decide +kernel)) ggX3_isSettled_X3_sureIn
set_option maxRecDepth 20000 in
theorem ggX3_isSettled_X3_has : GoodIn wsX3_isSettled wsX3_has := goodIn_r _ [34] (by decide +kernel) (by decide +kernel)
set_option maxRecDepth 20000 in
theorem gX3_isSettled_X3_has : GoodIn wsX3_isSettled (va_wsS RX3 177 yX3_has wsX3_has) := goodIn_app (goodIn_of _ (by decide +kernel)) ggX3_isSettled_X3_has
theorem dX3_isSettled_0 : decode cX3_isSettled 0 = .ok (.aload_n 0, 1) := by decide +kernel
theorem dX3_isSettled_1 : decode cX3_isSettled 1 = .ok (.invokevirtual 219, 3) := by decide +kernel
theorem dX3_isSettled_4 : decode cX3_isSettled 4 = .ok (.iconst 0, 1) := by decide +kernel
theorem dX3_isSettled_5 : decode cX3_isSettled 5 = .ok (.istore 5, 2) := by decide +kernel
theorem dX3_isSettled_7 : decode cX3_isSettled 7 = .ok (.iload 5, 2) := by decide +kernel
theorem dX3_isSettled_9 : decode cX3_isSettled 9 = .ok (.iload 4, 2) := by decide +kernel
theorem dX3_isSettled_11 : decode cX3_isSettled 11 = .ok (.if_icmp .ge 44, 3) := by decide +kernel
theorem dX3_isSettled_14 : decode cX3_isSettled 14 = .ok (.aload_n 0, 1) := by decide +kernel
theorem dX3_isSettled_15 : decode cX3_isSettled 15 = .ok (.iload_n 1, 1) := by decide +kernel
theorem dX3_isSettled_16 : decode cX3_isSettled 16 = .ok (.iload_n 3, 1) := by decide +kernel
theorem dX3_isSettled_17 : decode cX3_isSettled 17 = .ok (.aload_n 0, 1) := by decide +kernel
theorem dX3_isSettled_18 : decode cX3_isSettled 18 = .ok (.getfield 70, 3) := by decide +kernel
theorem dX3_isSettled_21 : decode cX3_isSettled 21 = .ok (.iload 4, 2) := by decide +kernel
theorem dX3_isSettled_23 : decode cX3_isSettled 23 = .ok (.iconst 1, 1) := by decide +kernel
theorem dX3_isSettled_24 : decode cX3_isSettled 24 = .ok (.isub, 1) := by decide +kernel
theorem dX3_isSettled_25 : decode cX3_isSettled 25 = .ok (.iload 5, 2) := by decide +kernel
theorem dX3_isSettled_27 : decode cX3_isSettled 27 = .ok (.isub, 1) := by decide +kernel
theorem dX3_isSettled_28 : decode cX3_isSettled 28 = .ok (.invokestatic 222, 3) := by decide +kernel
theorem dX3_isSettled_31 : decode cX3_isSettled 31 = .ok (.idiv, 1) := by decide +kernel
theorem dX3_isSettled_32 : decode cX3_isSettled 32 = .ok (.aload_n 0, 1) := by decide +kernel
theorem dX3_isSettled_33 : decode cX3_isSettled 33 = .ok (.getfield 70, 3) := by decide +kernel
theorem dX3_isSettled_36 : decode cX3_isSettled 36 = .ok (.irem, 1) := by decide +kernel
theorem dX3_isSettled_37 : decode cX3_isSettled 37 = .ok (.aload_n 0, 1) := by decide +kernel
theorem dX3_isSettled_38 : decode cX3_isSettled 38 = .ok (.getfield 127, 3) := by decide +kernel
theorem dX3_isSettled_41 : decode cX3_isSettled 41 = .ok (.iconst 1, 1) := by decide +kernel
theorem dX3_isSettled_42 : decode cX3_isSettled 42 = .ok (.iadd, 1) := by decide +kernel
theorem dX3_isSettled_43 : decode cX3_isSettled 43 = .ok (.iload 5, 2) := by decide +kernel
theorem dX3_isSettled_45 : decode cX3_isSettled 45 = .ok (.iadd, 1) := by decide +kernel
theorem dX3_isSettled_46 : decode cX3_isSettled 46 = .ok (.invokevirtual 225, 3) := by decide +kernel
theorem dX3_isSettled_49 : decode cX3_isSettled 49 = .ok (.iinc 5 1, 3) := by decide +kernel
theorem dX3_isSettled_52 : decode cX3_isSettled 52 = .ok (.goto (-45), 3) := by decide +kernel
theorem dX3_isSettled_55 : decode cX3_isSettled 55 = .ok (.aload_n 0, 1) := by decide +kernel
theorem dX3_isSettled_56 : decode cX3_isSettled 56 = .ok (.getfield 61, 3) := by decide +kernel
theorem dX3_isSettled_59 : decode cX3_isSettled 59 = .ok (.invokestatic 213, 3) := by decide +kernel
theorem dX3_isSettled_62 : decode cX3_isSettled 62 = .ok (.iload_n 2, 1) := by decide +kernel
theorem dX3_isSettled_63 : decode cX3_isSettled 63 = .ok (.invokestatic 177, 3) := by decide +kernel
theorem dX3_isSettled_66 : decode cX3_isSettled 66 = .ok (.ireturn, 1) := by decide +kernel
set_option maxRecDepth 20000 in
theorem ggX3_settle_X3_isWitness : GoodIn wsX3_settle wsX3_isWitness := goodIn_r _ [7, 8, 86, 87, 88, 89, 90, 91, 92, 93, 94, 95, 96, 97, 98, 99, 100, 101, 102, 103, 104, 105, 106, 107, 108, 109, 110, 111, 112, 113, 114, 115, 116, 117, 118] (by decide +kernel) (by decide +kernel)
set_option maxRecDepth 20000 in
theorem gX3_settle_X3_isWitness : GoodIn wsX3_settle (wsV RX3 121 RX3 yX3_isWitness wsX3_isWitness) := goodIn_app (goodIn_of _ (by decide +kernel)) ggX3_settle_X3_isWitness
set_option maxRecDepth 20000 in
theorem ggX3_settle_X3_isFact : GoodIn wsX3_settle wsX3_isFact := goodIn_r _ [11] (by decide +kernel) (by decide +kernel)
set_option maxRecDepth 20000 in
theorem gX3_settle_X3_isFact : GoodIn wsX3_settle (va_wsS RX3 118 yX3_isFact wsX3_isFact) := goodIn_app (goodIn_of _ (by decide +kernel)) ggX3_settle_X3_isFact
set_option maxRecDepth 20000 in
theorem ggX3_settle_X3_isIn : GoodIn wsX3_settle wsX3_isIn := goodIn_r _ [14] (by decide +kernel) (by decide +kernel)
set_option maxRecDepth 20000 in
theorem gX3_settle_X3_isIn : GoodIn wsX3_settle (va_wsS RX3 97 yX3_isIn wsX3_isIn) := goodIn_app (goodIn_of _ (by decide +kernel)) ggX3_settle_X3_isIn
set_option maxRecDepth 20000 in
theorem ggX3_settle_X3_no : GoodIn wsX3_settle wsX3_no := goodIn_r _ [18, 19, 86, 87, 88, 89, 90, 91, 92, 93, 94, 95, 96, 97, 98, 99, 100, 101, 102, 103, 104, 105, 106, 107, 108, 109, 110, 111, 112, 113, 114, 115, 116, 117, 118] (by decide +kernel) (by decide +kernel)
set_option maxRecDepth 20000 in
theorem gX3_settle_X3_no : GoodIn wsX3_settle (wsV RX3 86 RX3 yX3_no wsX3_no) := goodIn_app (goodIn_of _ (by decide +kernel)) ggX3_settle_X3_no
set_option maxRecDepth 20000 in
theorem ggX3_settle_X3_findFit : GoodIn wsX3_settle wsX3_findFit := goodIn_r _ [23, 1, 24, 25, 26, 6, 27, 28, 29, 30, 31, 32, 2, 33, 34, 35, 36, 37, 38, 39, 40, 41, 42, 43, 44, 45, 46, 47, 48, 49, 50, 51, 52, 53, 54, 55, 56, 57, 58, 59, 60, 61, 86, 87, 88, 89, 90, 91, 92, 93, 94, 95, 96, 97, 98, 99, 100, 101, 102, 103, 104, 105, 106, 107, 108, 109, 110, 111, 112, 113, 114, 115, 116, 117, 118] (by decide +kernel) (by decide +kernel)
set_option maxRecDepth 20000 in
theorem gX3_settle_X3_findFit : GoodIn wsX3_settle (wsV RX3 206 RX3 yX3_findFit wsX3_findFit) := goodIn_app (goodIn_of _ (by decide +kernel)) ggX3_settle_X3_findFit
set_option maxRecDepth 20000 in
theorem ggX3_settle_X3_sureIn : GoodIn wsX3_settle wsX3_sureIn := goodIn_r _ [64, 65, 66, 6, 67] (by decide +kernel) (by decide +kernel)
set_option maxRecDepth 20000 in
theorem gX3_settle_X3_sureIn : GoodIn wsX3_settle (va_wsS RX3 213 yX3_sureIn wsX3_sureIn) := goodIn_app (goodIn_of _ (by decide +kernel)) ggX3_settle_X3_sureIn
set_option maxRecDepth 20000 in
theorem ggX3_settle_X3_has : GoodIn wsX3_settle wsX3_has := goodIn_r _ [52] (by decide +kernel) (by decide +kernel)
set_option maxRecDepth 20000 in
theorem gX3_settle_X3_has : GoodIn wsX3_settle (va_wsS RX3 177 yX3_has wsX3_has) := goodIn_app (goodIn_of _ (by decide +kernel)) ggX3_settle_X3_has
set_option maxRecDepth 20000 in
theorem ggX3_settle_X3_power : GoodIn wsX3_settle wsX3_power := goodIn_r _ [70] (by decide +kernel) (by decide +kernel)
set_option maxRecDepth 20000 in
theorem gX3_settle_X3_power : GoodIn wsX3_settle (va_wsS RX3 222 yX3_power wsX3_power) := goodIn_app (goodIn_of _ (by decide +kernel)) ggX3_settle_X3_power
set_option maxRecDepth 20000 in
theorem ggX3_settle_X3_isSettled : GoodIn wsX3_settle wsX3_isSettled := goodIn_r _ [74, 2, 75, 76, 77, 78, 79, 6, 80, 1, 68, 69, 70, 81, 82, 83, 84, 85, 36, 37, 38, 39, 40, 41, 42, 43, 44, 45, 46, 47, 48, 49, 50, 51, 52, 53, 54, 55, 56, 62, 63, 64, 65, 66, 67, 86, 87, 88, 89, 90, 91, 92, 93, 94, 95, 96, 97, 98, 99, 100, 101, 102, 103, 104, 105, 106, 107, 108, 109, 110, 111, 112, 113, 114, 115, 116, 117, 118] (by decide +kernel) (by decide +kernel)
set_option maxRecDepth 20000 in
theorem gX3_settle_X3_isSettled : GoodIn wsX3_settle (wsV RX3 229 RX3 yX3_isSettled wsX3_isSettled) := goodIn_app (goodIn_of _ (by decide +kernel)) ggX3_settle_X3_isSettled
theorem dX3_settle_0 : decode cX3_settle 0 = .ok (.aload_n 0, 1) := by decide +kernel
theorem dX3_settle_1 : decode cX3_settle 1 = .ok (.iload_n 1, 1) := by decide +kernel
theorem dX3_settle_2 : decode cX3_settle 2 = .ok (.invokevirtual 121, 3) := by decide +kernel
theorem dX3_settle_5 : decode cX3_settle 5 = .ok (.ifCond .eq 10, 3) := by decide +kernel
theorem dX3_settle_8 : decode cX3_settle 8 = .ok (.iload_n 2, 1) := by decide +kernel
theorem dX3_settle_9 : decode cX3_settle 9 = .ok (.invokestatic 118, 3) := by decide +kernel
theorem dX3_settle_12 : decode cX3_settle 12 = .ok (.ifCond .ne 7, 3) := by decide +kernel
theorem dX3_settle_15 : decode cX3_settle 15 = .ok (.iconst (-1), 1) := by decide +kernel
theorem dX3_settle_16 : decode cX3_settle 16 = .ok (.goto 18, 3) := by decide +kernel
theorem dX3_settle_19 : decode cX3_settle 19 = .ok (.iload_n 3, 1) := by decide +kernel
theorem dX3_settle_20 : decode cX3_settle 20 = .ok (.iconst 0, 1) := by decide +kernel
theorem dX3_settle_21 : decode cX3_settle 21 = .ok (.iconst 1, 1) := by decide +kernel
theorem dX3_settle_22 : decode cX3_settle 22 = .ok (.invokestatic 97, 3) := by decide +kernel
theorem dX3_settle_25 : decode cX3_settle 25 = .ok (.ifCond .ne 8, 3) := by decide +kernel
theorem dX3_settle_28 : decode cX3_settle 28 = .ok (.bipush (-2), 2) := by decide +kernel
theorem dX3_settle_30 : decode cX3_settle 30 = .ok (.goto 4, 3) := by decide +kernel
theorem dX3_settle_33 : decode cX3_settle 33 = .ok (.iconst 0, 1) := by decide +kernel
theorem dX3_settle_34 : decode cX3_settle 34 = .ok (.istore 4, 2) := by decide +kernel
theorem dX3_settle_36 : decode cX3_settle 36 = .ok (.iload 4, 2) := by decide +kernel
theorem dX3_settle_38 : decode cX3_settle 38 = .ok (.ifCond .eq 10, 3) := by decide +kernel
theorem dX3_settle_41 : decode cX3_settle 41 = .ok (.aload_n 0, 1) := by decide +kernel
theorem dX3_settle_42 : decode cX3_settle 42 = .ok (.iload 4, 2) := by decide +kernel
theorem dX3_settle_44 : decode cX3_settle 44 = .ok (.invokevirtual 86, 3) := by decide +kernel
theorem dX3_settle_47 : decode cX3_settle 47 = .ok (.ireturn, 1) := by decide +kernel
theorem dX3_settle_48 : decode cX3_settle 48 = .ok (.aload_n 0, 1) := by decide +kernel
theorem dX3_settle_49 : decode cX3_settle 49 = .ok (.iconst 0, 1) := by decide +kernel
theorem dX3_settle_50 : decode cX3_settle 50 = .ok (.invokevirtual 206, 3) := by decide +kernel
theorem dX3_settle_53 : decode cX3_settle 53 = .ok (.aload_n 0, 1) := by decide +kernel
theorem dX3_settle_54 : decode cX3_settle 54 = .ok (.getfield 58, 3) := by decide +kernel
theorem dX3_settle_57 : decode cX3_settle 57 = .ok (.invokestatic 213, 3) := by decide +kernel
theorem dX3_settle_60 : decode cX3_settle 60 = .ok (.iload_n 2, 1) := by decide +kernel
theorem dX3_settle_61 : decode cX3_settle 61 = .ok (.invokestatic 177, 3) := by decide +kernel
theorem dX3_settle_64 : decode cX3_settle 64 = .ok (.ifCond .eq 14, 3) := by decide +kernel
theorem dX3_settle_67 : decode cX3_settle 67 = .ok (.iload_n 3, 1) := by decide +kernel
theorem dX3_settle_68 : decode cX3_settle 68 = .ok (.ifCond .ne 7, 3) := by decide +kernel
theorem dX3_settle_71 : decode cX3_settle 71 = .ok (.iconst 0, 1) := by decide +kernel
theorem dX3_settle_72 : decode cX3_settle 72 = .ok (.goto 5, 3) := by decide +kernel
theorem dX3_settle_75 : decode cX3_settle 75 = .ok (.bipush (-9), 2) := by decide +kernel
theorem dX3_settle_77 : decode cX3_settle 77 = .ok (.ireturn, 1) := by decide +kernel
theorem dX3_settle_78 : decode cX3_settle 78 = .ok (.iconst 1, 1) := by decide +kernel
theorem dX3_settle_79 : decode cX3_settle 79 = .ok (.istore 5, 2) := by decide +kernel
theorem dX3_settle_81 : decode cX3_settle 81 = .ok (.iload 5, 2) := by decide +kernel
theorem dX3_settle_83 : decode cX3_settle 83 = .ok (.iconst 4, 1) := by decide +kernel
theorem dX3_settle_84 : decode cX3_settle 84 = .ok (.if_icmp .ge 69, 3) := by decide +kernel
theorem dX3_settle_87 : decode cX3_settle 87 = .ok (.iconst 0, 1) := by decide +kernel
theorem dX3_settle_88 : decode cX3_settle 88 = .ok (.istore 6, 2) := by decide +kernel
theorem dX3_settle_90 : decode cX3_settle 90 = .ok (.iload 6, 2) := by decide +kernel
theorem dX3_settle_92 : decode cX3_settle 92 = .ok (.aload_n 0, 1) := by decide +kernel
theorem dX3_settle_93 : decode cX3_settle 93 = .ok (.getfield 70, 3) := by decide +kernel
theorem dX3_settle_96 : decode cX3_settle 96 = .ok (.iload 5, 2) := by decide +kernel
theorem dX3_settle_98 : decode cX3_settle 98 = .ok (.invokestatic 222, 3) := by decide +kernel
theorem dX3_settle_101 : decode cX3_settle 101 = .ok (.if_icmp .ge 46, 3) := by decide +kernel
theorem dX3_settle_104 : decode cX3_settle 104 = .ok (.aload_n 0, 1) := by decide +kernel
theorem dX3_settle_105 : decode cX3_settle 105 = .ok (.iload_n 1, 1) := by decide +kernel
theorem dX3_settle_106 : decode cX3_settle 106 = .ok (.iload_n 2, 1) := by decide +kernel
theorem dX3_settle_107 : decode cX3_settle 107 = .ok (.iload 6, 2) := by decide +kernel
theorem dX3_settle_109 : decode cX3_settle 109 = .ok (.iload 5, 2) := by decide +kernel
theorem dX3_settle_111 : decode cX3_settle 111 = .ok (.invokevirtual 229, 3) := by decide +kernel
theorem dX3_settle_114 : decode cX3_settle 114 = .ok (.ifCond .eq 27, 3) := by decide +kernel
theorem dX3_settle_117 : decode cX3_settle 117 = .ok (.iload_n 3, 1) := by decide +kernel
theorem dX3_settle_118 : decode cX3_settle 118 = .ok (.ifCond .ne 8, 3) := by decide +kernel
theorem dX3_settle_121 : decode cX3_settle 121 = .ok (.iload 5, 2) := by decide +kernel
theorem dX3_settle_123 : decode cX3_settle 123 = .ok (.goto 17, 3) := by decide +kernel
theorem dX3_settle_126 : decode cX3_settle 126 = .ok (.iload 6, 2) := by decide +kernel
theorem dX3_settle_128 : decode cX3_settle 128 = .ok (.aload_n 0, 1) := by decide +kernel
theorem dX3_settle_129 : decode cX3_settle 129 = .ok (.getfield 70, 3) := by decide +kernel
theorem dX3_settle_132 : decode cX3_settle 132 = .ok (.iload 5, 2) := by decide +kernel
theorem dX3_settle_134 : decode cX3_settle 134 = .ok (.iconst 1, 1) := by decide +kernel
theorem dX3_settle_135 : decode cX3_settle 135 = .ok (.isub, 1) := by decide +kernel
theorem dX3_settle_136 : decode cX3_settle 136 = .ok (.invokestatic 222, 3) := by decide +kernel
theorem dX3_settle_139 : decode cX3_settle 139 = .ok (.idiv, 1) := by decide +kernel
theorem dX3_settle_140 : decode cX3_settle 140 = .ok (.ireturn, 1) := by decide +kernel
theorem dX3_settle_141 : decode cX3_settle 141 = .ok (.iinc 6 1, 3) := by decide +kernel
theorem dX3_settle_144 : decode cX3_settle 144 = .ok (.goto (-54), 3) := by decide +kernel
theorem dX3_settle_147 : decode cX3_settle 147 = .ok (.iinc 5 1, 3) := by decide +kernel
theorem dX3_settle_150 : decode cX3_settle 150 = .ok (.goto (-69), 3) := by decide +kernel
theorem dX3_settle_153 : decode cX3_settle 153 = .ok (.bipush (-9), 2) := by decide +kernel
theorem dX3_settle_155 : decode cX3_settle 155 = .ok (.ireturn, 1) := by decide +kernel
set_option maxRecDepth 20000 in
theorem ggX3_words_X3_isWitness : GoodIn wsX3_words wsX3_isWitness := goodIn_r _ [8, 9, 39, 40, 41, 42, 43, 44, 45, 46, 47, 48, 49, 50, 51, 52, 53, 54, 55, 56, 57, 58, 59, 60, 61, 62, 63, 64, 65, 66, 67, 68, 69, 70, 71] (by decide +kernel) (by decide +kernel)
set_option maxRecDepth 20000 in
theorem gX3_words_X3_isWitness : GoodIn wsX3_words (wsV RX3 121 RX3 yX3_isWitness wsX3_isWitness) := goodIn_app (goodIn_of _ (by decide +kernel)) ggX3_words_X3_isWitness
set_option maxRecDepth 20000 in
theorem ggX3_words_X3_isIn : GoodIn wsX3_words wsX3_isIn := goodIn_r _ [12] (by decide +kernel) (by decide +kernel)
set_option maxRecDepth 20000 in
theorem gX3_words_X3_isIn : GoodIn wsX3_words (va_wsS RX3 97 yX3_isIn wsX3_isIn) := goodIn_app (goodIn_of _ (by decide +kernel)) ggX3_words_X3_isIn
set_option maxRecDepth 20000 in
theorem ggX3_words_X3_no : GoodIn wsX3_words wsX3_no := goodIn_r _ [16, 17, 39, 40, 41, 42, 43, 44, 45, 46, 47, 48, 49, 50, 51, 52, 53, 54, 55, 56, 57, 58, 59, 60, 61, 62, 63, 64, 65, 66, 67, 68, 69, 70, 71] (by decide +kernel) (by decide +kernel)
set_option maxRecDepth 20000 in
theorem gX3_words_X3_no : GoodIn wsX3_words (wsV RX3 86 RX3 yX3_no wsX3_no) := goodIn_app (goodIn_of _ (by decide +kernel)) ggX3_words_X3_no
set_option maxRecDepth 20000 in
theorem ggX3_words_X3_answerOf : GoodIn wsX3_words wsX3_answerOf := goodIn_r _ [21, 22, 23, 1, 24, 25, 26, 7, 27, 28, 29, 30, 31, 32, 33, 34, 35, 36, 37, 38, 39, 40, 41, 42, 43, 44, 45, 46, 47, 48, 49, 50, 51, 52, 53, 54, 55, 56, 57, 58, 59, 60, 61, 62, 63, 64, 65, 66, 67, 68, 69, 70, 71] (by decide +kernel) (by decide +kernel)
set_option maxRecDepth 20000 in
theorem gX3_words_X3_answerOf : GoodIn wsX3_words (wsV RX3 186 RX3 yX3_answerOf wsX3_answerOf) := goodIn_app (goodIn_of _ (by decide +kernel)) ggX3_words_X3_answerOf
theorem dX3_words_0 : decode cX3_words 0 = .ok (.aload_n 0, 1) := by decide +kernel
theorem dX3_words_1 : decode cX3_words 1 = .ok (.iload_n 1, 1) := by decide +kernel
theorem dX3_words_2 : decode cX3_words 2 = .ok (.invokevirtual 121, 3) := by decide +kernel
theorem dX3_words_5 : decode cX3_words 5 = .ok (.ifCond .ne 7, 3) := by decide +kernel
theorem dX3_words_8 : decode cX3_words 8 = .ok (.iconst (-1), 1) := by decide +kernel
theorem dX3_words_9 : decode cX3_words 9 = .ok (.goto 18, 3) := by decide +kernel
theorem dX3_words_12 : decode cX3_words 12 = .ok (.iload_n 2, 1) := by decide +kernel
theorem dX3_words_13 : decode cX3_words 13 = .ok (.iconst 0, 1) := by decide +kernel
theorem dX3_words_14 : decode cX3_words 14 = .ok (.iconst 2, 1) := by decide +kernel
theorem dX3_words_15 : decode cX3_words 15 = .ok (.invokestatic 97, 3) := by decide +kernel
theorem dX3_words_18 : decode cX3_words 18 = .ok (.ifCond .ne 8, 3) := by decide +kernel
theorem dX3_words_21 : decode cX3_words 21 = .ok (.bipush (-2), 2) := by decide +kernel
theorem dX3_words_23 : decode cX3_words 23 = .ok (.goto 4, 3) := by decide +kernel
theorem dX3_words_26 : decode cX3_words 26 = .ok (.iconst 0, 1) := by decide +kernel
theorem dX3_words_27 : decode cX3_words 27 = .ok (.istore_n 3, 1) := by decide +kernel
theorem dX3_words_28 : decode cX3_words 28 = .ok (.iload_n 3, 1) := by decide +kernel
theorem dX3_words_29 : decode cX3_words 29 = .ok (.ifCond .eq 9, 3) := by decide +kernel
theorem dX3_words_32 : decode cX3_words 32 = .ok (.aload_n 0, 1) := by decide +kernel
theorem dX3_words_33 : decode cX3_words 33 = .ok (.iload_n 3, 1) := by decide +kernel
theorem dX3_words_34 : decode cX3_words 34 = .ok (.invokevirtual 86, 3) := by decide +kernel
theorem dX3_words_37 : decode cX3_words 37 = .ok (.ireturn, 1) := by decide +kernel
theorem dX3_words_38 : decode cX3_words 38 = .ok (.iconst 0, 1) := by decide +kernel
theorem dX3_words_39 : decode cX3_words 39 = .ok (.istore 4, 2) := by decide +kernel
theorem dX3_words_41 : decode cX3_words 41 = .ok (.iconst 0, 1) := by decide +kernel
theorem dX3_words_42 : decode cX3_words 42 = .ok (.istore 5, 2) := by decide +kernel
theorem dX3_words_44 : decode cX3_words 44 = .ok (.iload 5, 2) := by decide +kernel
theorem dX3_words_46 : decode cX3_words 46 = .ok (.aload_n 0, 1) := by decide +kernel
theorem dX3_words_47 : decode cX3_words 47 = .ok (.getfield 70, 3) := by decide +kernel
theorem dX3_words_50 : decode cX3_words 50 = .ok (.if_icmp .ge 40, 3) := by decide +kernel
theorem dX3_words_53 : decode cX3_words 53 = .ok (.iload 4, 2) := by decide +kernel
theorem dX3_words_55 : decode cX3_words 55 = .ok (.aload_n 0, 1) := by decide +kernel
theorem dX3_words_56 : decode cX3_words 56 = .ok (.iload_n 1, 1) := by decide +kernel
theorem dX3_words_57 : decode cX3_words 57 = .ok (.iload 5, 2) := by decide +kernel
theorem dX3_words_59 : decode cX3_words 59 = .ok (.aload_n 0, 1) := by decide +kernel
theorem dX3_words_60 : decode cX3_words 60 = .ok (.getfield 134, 3) := by decide +kernel
theorem dX3_words_63 : decode cX3_words 63 = .ok (.aload_n 0, 1) := by decide +kernel
theorem dX3_words_64 : decode cX3_words 64 = .ok (.getfield 127, 3) := by decide +kernel
theorem dX3_words_67 : decode cX3_words 67 = .ok (.iconst 1, 1) := by decide +kernel
theorem dX3_words_68 : decode cX3_words 68 = .ok (.iadd, 1) := by decide +kernel
theorem dX3_words_69 : decode cX3_words 69 = .ok (.invokevirtual 186, 3) := by decide +kernel
theorem dX3_words_72 : decode cX3_words 72 = .ok (.iload_n 2, 1) := by decide +kernel
theorem dX3_words_73 : decode cX3_words 73 = .ok (.if_icmp .ne 7, 3) := by decide +kernel
theorem dX3_words_76 : decode cX3_words 76 = .ok (.iconst 1, 1) := by decide +kernel
theorem dX3_words_77 : decode cX3_words 77 = .ok (.goto 4, 3) := by decide +kernel
theorem dX3_words_80 : decode cX3_words 80 = .ok (.iconst 0, 1) := by decide +kernel
theorem dX3_words_81 : decode cX3_words 81 = .ok (.iadd, 1) := by decide +kernel
theorem dX3_words_82 : decode cX3_words 82 = .ok (.istore 4, 2) := by decide +kernel
theorem dX3_words_84 : decode cX3_words 84 = .ok (.iinc 5 1, 3) := by decide +kernel
theorem dX3_words_87 : decode cX3_words 87 = .ok (.goto (-43), 3) := by decide +kernel
theorem dX3_words_90 : decode cX3_words 90 = .ok (.iload 4, 2) := by decide +kernel
theorem dX3_words_92 : decode cX3_words 92 = .ok (.ireturn, 1) := by decide +kernel
set_option maxRecDepth 20000 in
theorem ggX3_trueAt_X3_isSo : GoodIn wsX3_trueAt wsX3_isSo := goodIn_r _ [7, 8, 9, 10, 11, 12, 6, 13, 14, 15, 16, 17, 18, 19, 20, 21, 22, 23, 24, 25, 26, 27, 28, 29, 30, 31, 32, 33, 34, 35, 36, 37, 38, 39, 40, 41, 42, 43, 44, 45, 46] (by decide +kernel) (by decide +kernel)
set_option maxRecDepth 20000 in
theorem gX3_trueAt_X3_isSo : GoodIn wsX3_trueAt (wsV RX3 180 RX3 yX3_isSo wsX3_isSo) := goodIn_app (goodIn_of _ (by decide +kernel)) ggX3_trueAt_X3_isSo
theorem dX3_trueAt_0 : decode cX3_trueAt 0 = .ok (.aload_n 0, 1) := by decide +kernel
theorem dX3_trueAt_1 : decode cX3_trueAt 1 = .ok (.getfield 37, 3) := by decide +kernel
theorem dX3_trueAt_4 : decode cX3_trueAt 4 = .ok (.iload_n 1, 1) := by decide +kernel
theorem dX3_trueAt_5 : decode cX3_trueAt 5 = .ok (.iaload, 1) := by decide +kernel
theorem dX3_trueAt_6 : decode cX3_trueAt 6 = .ok (.iconst 2, 1) := by decide +kernel
theorem dX3_trueAt_7 : decode cX3_trueAt 7 = .ok (.if_icmp .ne 5, 3) := by decide +kernel
theorem dX3_trueAt_10 : decode cX3_trueAt 10 = .ok (.iconst 2, 1) := by decide +kernel
theorem dX3_trueAt_11 : decode cX3_trueAt 11 = .ok (.ireturn, 1) := by decide +kernel
theorem dX3_trueAt_12 : decode cX3_trueAt 12 = .ok (.aload_n 0, 1) := by decide +kernel
theorem dX3_trueAt_13 : decode cX3_trueAt 13 = .ok (.aload_n 0, 1) := by decide +kernel
theorem dX3_trueAt_14 : decode cX3_trueAt 14 = .ok (.getfield 34, 3) := by decide +kernel
theorem dX3_trueAt_17 : decode cX3_trueAt 17 = .ok (.iload_n 1, 1) := by decide +kernel
theorem dX3_trueAt_18 : decode cX3_trueAt 18 = .ok (.iaload, 1) := by decide +kernel
theorem dX3_trueAt_19 : decode cX3_trueAt 19 = .ok (.iload_n 2, 1) := by decide +kernel
theorem dX3_trueAt_20 : decode cX3_trueAt 20 = .ok (.invokevirtual 180, 3) := by decide +kernel
theorem dX3_trueAt_23 : decode cX3_trueAt 23 = .ok (.aload_n 0, 1) := by decide +kernel
theorem dX3_trueAt_24 : decode cX3_trueAt 24 = .ok (.getfield 37, 3) := by decide +kernel
theorem dX3_trueAt_27 : decode cX3_trueAt 27 = .ok (.iload_n 1, 1) := by decide +kernel
theorem dX3_trueAt_28 : decode cX3_trueAt 28 = .ok (.iaload, 1) := by decide +kernel
theorem dX3_trueAt_29 : decode cX3_trueAt 29 = .ok (.iconst 1, 1) := by decide +kernel
theorem dX3_trueAt_30 : decode cX3_trueAt 30 = .ok (.if_icmp .ne 7, 3) := by decide +kernel
theorem dX3_trueAt_33 : decode cX3_trueAt 33 = .ok (.iconst 1, 1) := by decide +kernel
theorem dX3_trueAt_34 : decode cX3_trueAt 34 = .ok (.goto 4, 3) := by decide +kernel
theorem dX3_trueAt_37 : decode cX3_trueAt 37 = .ok (.iconst 0, 1) := by decide +kernel
theorem dX3_trueAt_38 : decode cX3_trueAt 38 = .ok (.if_icmp .ne 7, 3) := by decide +kernel
theorem dX3_trueAt_41 : decode cX3_trueAt 41 = .ok (.iconst 1, 1) := by decide +kernel
theorem dX3_trueAt_42 : decode cX3_trueAt 42 = .ok (.goto 4, 3) := by decide +kernel
theorem dX3_trueAt_45 : decode cX3_trueAt 45 = .ok (.iconst 0, 1) := by decide +kernel
theorem dX3_trueAt_46 : decode cX3_trueAt 46 = .ok (.ireturn, 1) := by decide +kernel
set_option maxRecDepth 20000 in
theorem ggX3_hasLied_X3_trueAt : GoodIn wsX3_hasLied wsX3_trueAt := goodIn_r _ [7, 8, 9, 10, 11, 12, 6, 13, 14, 15, 16, 17, 18, 19, 20, 21, 22, 23, 24, 25, 26, 27, 28, 29, 30, 31, 32, 33, 34, 35, 36, 37, 38, 39, 40, 41, 42, 43, 44, 45, 46, 47, 48, 49, 50, 51, 52] (by decide +kernel) (by decide +kernel)
set_option maxRecDepth 20000 in
theorem gX3_hasLied_X3_trueAt : GoodIn wsX3_hasLied (wsV RX3 233 RX3 yX3_trueAt wsX3_trueAt) := goodIn_app (goodIn_of _ (by decide +kernel)) ggX3_hasLied_X3_trueAt
theorem dX3_hasLied_0 : decode cX3_hasLied 0 = .ok (.iconst 0, 1) := by decide +kernel
theorem dX3_hasLied_1 : decode cX3_hasLied 1 = .ok (.istore_n 3, 1) := by decide +kernel
theorem dX3_hasLied_2 : decode cX3_hasLied 2 = .ok (.iload_n 3, 1) := by decide +kernel
theorem dX3_hasLied_3 : decode cX3_hasLied 3 = .ok (.aload_n 0, 1) := by decide +kernel
theorem dX3_hasLied_4 : decode cX3_hasLied 4 = .ok (.getfield 146, 3) := by decide +kernel
theorem dX3_hasLied_7 : decode cX3_hasLied 7 = .ok (.if_icmp .ge 30, 3) := by decide +kernel
theorem dX3_hasLied_10 : decode cX3_hasLied 10 = .ok (.aload_n 0, 1) := by decide +kernel
theorem dX3_hasLied_11 : decode cX3_hasLied 11 = .ok (.getfield 31, 3) := by decide +kernel
theorem dX3_hasLied_14 : decode cX3_hasLied 14 = .ok (.iload_n 3, 1) := by decide +kernel
theorem dX3_hasLied_15 : decode cX3_hasLied 15 = .ok (.iaload, 1) := by decide +kernel
theorem dX3_hasLied_16 : decode cX3_hasLied 16 = .ok (.iload_n 1, 1) := by decide +kernel
theorem dX3_hasLied_17 : decode cX3_hasLied 17 = .ok (.if_icmp .ne 14, 3) := by decide +kernel
theorem dX3_hasLied_20 : decode cX3_hasLied 20 = .ok (.aload_n 0, 1) := by decide +kernel
theorem dX3_hasLied_21 : decode cX3_hasLied 21 = .ok (.iload_n 3, 1) := by decide +kernel
theorem dX3_hasLied_22 : decode cX3_hasLied 22 = .ok (.iload_n 2, 1) := by decide +kernel
theorem dX3_hasLied_23 : decode cX3_hasLied 23 = .ok (.invokevirtual 233, 3) := by decide +kernel
theorem dX3_hasLied_26 : decode cX3_hasLied 26 = .ok (.ifCond .ne 5, 3) := by decide +kernel
theorem dX3_hasLied_29 : decode cX3_hasLied 29 = .ok (.iconst 1, 1) := by decide +kernel
theorem dX3_hasLied_30 : decode cX3_hasLied 30 = .ok (.ireturn, 1) := by decide +kernel
theorem dX3_hasLied_31 : decode cX3_hasLied 31 = .ok (.iinc 3 1, 3) := by decide +kernel
theorem dX3_hasLied_34 : decode cX3_hasLied 34 = .ok (.goto (-32), 3) := by decide +kernel
theorem dX3_hasLied_37 : decode cX3_hasLied 37 = .ok (.iconst 0, 1) := by decide +kernel
theorem dX3_hasLied_38 : decode cX3_hasLied 38 = .ok (.ireturn, 1) := by decide +kernel
set_option maxRecDepth 20000 in
theorem ggX3_isLiar_X3_hasLied : GoodIn wsX3_isLiar wsX3_hasLied := goodIn_r _ [6, 7, 8, 9, 10, 11, 5, 12, 13, 14, 15, 16, 17, 18, 19, 20, 21, 22, 23, 24, 28, 29, 30, 31, 32, 33, 34, 35, 36, 37, 38, 39, 40, 41, 42, 43, 44, 45, 46, 47, 48, 49, 50, 51, 52, 53, 54, 55, 56, 57, 58, 59, 60] (by decide +kernel) (by decide +kernel)
set_option maxRecDepth 20000 in
theorem gX3_isLiar_X3_hasLied : GoodIn wsX3_isLiar (wsV RX3 236 RX3 yX3_hasLied wsX3_hasLied) := goodIn_app (goodIn_of _ (by decide +kernel)) ggX3_isLiar_X3_hasLied
set_option maxRecDepth 20000 in
theorem ggX3_isLiar_X3_manyIn : GoodIn wsX3_isLiar wsX3_manyIn := goodIn_r _ [27] (by decide +kernel) (by decide +kernel)
set_option maxRecDepth 20000 in
theorem gX3_isLiar_X3_manyIn : GoodIn wsX3_isLiar (va_wsS RX3 199 yX3_manyIn wsX3_manyIn) := goodIn_app (goodIn_of _ (by decide +kernel)) ggX3_isLiar_X3_manyIn
theorem dX3_isLiar_0 : decode cX3_isLiar 0 = .ok (.iconst 0, 1) := by decide +kernel
theorem dX3_isLiar_1 : decode cX3_isLiar 1 = .ok (.istore_n 2, 1) := by decide +kernel
theorem dX3_isLiar_2 : decode cX3_isLiar 2 = .ok (.iload_n 2, 1) := by decide +kernel
theorem dX3_isLiar_3 : decode cX3_isLiar 3 = .ok (.bipush 64, 2) := by decide +kernel
theorem dX3_isLiar_5 : decode cX3_isLiar 5 = .ok (.if_icmp .ge 30, 3) := by decide +kernel
theorem dX3_isLiar_8 : decode cX3_isLiar 8 = .ok (.aload_n 0, 1) := by decide +kernel
theorem dX3_isLiar_9 : decode cX3_isLiar 9 = .ok (.getfield 58, 3) := by decide +kernel
theorem dX3_isLiar_12 : decode cX3_isLiar 12 = .ok (.iload_n 2, 1) := by decide +kernel
theorem dX3_isLiar_13 : decode cX3_isLiar 13 = .ok (.iaload, 1) := by decide +kernel
theorem dX3_isLiar_14 : decode cX3_isLiar 14 = .ok (.iconst 1, 1) := by decide +kernel
theorem dX3_isLiar_15 : decode cX3_isLiar 15 = .ok (.if_icmp .ne 14, 3) := by decide +kernel
theorem dX3_isLiar_18 : decode cX3_isLiar 18 = .ok (.aload_n 0, 1) := by decide +kernel
theorem dX3_isLiar_19 : decode cX3_isLiar 19 = .ok (.iload_n 1, 1) := by decide +kernel
theorem dX3_isLiar_20 : decode cX3_isLiar 20 = .ok (.iload_n 2, 1) := by decide +kernel
theorem dX3_isLiar_21 : decode cX3_isLiar 21 = .ok (.invokevirtual 236, 3) := by decide +kernel
theorem dX3_isLiar_24 : decode cX3_isLiar 24 = .ok (.ifCond .ne 5, 3) := by decide +kernel
theorem dX3_isLiar_27 : decode cX3_isLiar 27 = .ok (.iconst 0, 1) := by decide +kernel
theorem dX3_isLiar_28 : decode cX3_isLiar 28 = .ok (.ireturn, 1) := by decide +kernel
theorem dX3_isLiar_29 : decode cX3_isLiar 29 = .ok (.iinc 2 1, 3) := by decide +kernel
theorem dX3_isLiar_32 : decode cX3_isLiar 32 = .ok (.goto (-30), 3) := by decide +kernel
theorem dX3_isLiar_35 : decode cX3_isLiar 35 = .ok (.aload_n 0, 1) := by decide +kernel
theorem dX3_isLiar_36 : decode cX3_isLiar 36 = .ok (.getfield 58, 3) := by decide +kernel
theorem dX3_isLiar_39 : decode cX3_isLiar 39 = .ok (.invokestatic 199, 3) := by decide +kernel
theorem dX3_isLiar_42 : decode cX3_isLiar 42 = .ok (.ifCond .le 7, 3) := by decide +kernel
theorem dX3_isLiar_45 : decode cX3_isLiar 45 = .ok (.iconst 1, 1) := by decide +kernel
theorem dX3_isLiar_46 : decode cX3_isLiar 46 = .ok (.goto 4, 3) := by decide +kernel
theorem dX3_isLiar_49 : decode cX3_isLiar 49 = .ok (.iconst 0, 1) := by decide +kernel
theorem dX3_isLiar_50 : decode cX3_isLiar 50 = .ok (.ireturn, 1) := by decide +kernel
set_option maxRecDepth 20000 in
theorem ggX3_liars_X3_findFit : GoodIn wsX3_liars wsX3_findFit := goodIn_r _ [6, 7, 8, 9, 10, 5, 11, 12, 13, 14, 15, 16, 17, 18, 19, 20, 21, 22, 23, 24, 25, 26, 27, 28, 29, 30, 31, 32, 33, 34, 35, 36, 37, 38, 39, 40, 41, 42, 43, 44, 45, 46, 62, 63, 64, 65, 66, 67, 68, 69, 70, 71, 72, 73, 74, 75, 76, 77, 78, 79, 80, 81, 82, 83, 84, 85, 86, 87, 88, 89, 90, 91, 92, 93, 94] (by decide +kernel) (by decide +kernel)
set_option maxRecDepth 20000 in
theorem gX3_liars_X3_findFit : GoodIn wsX3_liars (wsV RX3 206 RX3 yX3_findFit wsX3_findFit) := goodIn_app (goodIn_of _ (by decide +kernel)) ggX3_liars_X3_findFit
set_option maxRecDepth 20000 in
theorem ggX3_liars_X3_isLiar : GoodIn wsX3_liars wsX3_isLiar := goodIn_r _ [50, 7, 51, 52, 53, 5, 54, 12, 18, 55, 56, 57, 58, 20, 46, 38, 39, 40, 41, 32, 34, 33, 35, 36, 37, 59, 60, 61, 62, 63, 64, 65, 66, 67, 68, 69, 70, 71, 72, 73, 74, 75, 76, 77, 78, 79, 80, 81, 82, 83, 84, 85, 86, 87, 88, 89, 90, 91, 92, 93, 94] (by decide +kernel) (by decide +kernel)
set_option maxRecDepth 20000 in
theorem gX3_liars_X3_isLiar : GoodIn wsX3_liars (wsV RX3 239 RX3 yX3_isLiar wsX3_isLiar) := goodIn_app (goodIn_of _ (by decide +kernel)) ggX3_liars_X3_isLiar
theorem dX3_liars_0 : decode cX3_liars 0 = .ok (.aload_n 0, 1) := by decide +kernel
theorem dX3_liars_1 : decode cX3_liars 1 = .ok (.iconst 0, 1) := by decide +kernel
theorem dX3_liars_2 : decode cX3_liars 2 = .ok (.invokevirtual 206, 3) := by decide +kernel
theorem dX3_liars_5 : decode cX3_liars 5 = .ok (.iconst 0, 1) := by decide +kernel
theorem dX3_liars_6 : decode cX3_liars 6 = .ok (.istore_n 1, 1) := by decide +kernel
theorem dX3_liars_7 : decode cX3_liars 7 = .ok (.iconst 0, 1) := by decide +kernel
theorem dX3_liars_8 : decode cX3_liars 8 = .ok (.istore_n 2, 1) := by decide +kernel
theorem dX3_liars_9 : decode cX3_liars 9 = .ok (.iload_n 2, 1) := by decide +kernel
theorem dX3_liars_10 : decode cX3_liars 10 = .ok (.aload_n 0, 1) := by decide +kernel
theorem dX3_liars_11 : decode cX3_liars 11 = .ok (.getfield 76, 3) := by decide +kernel
theorem dX3_liars_14 : decode cX3_liars 14 = .ok (.if_icmp .ge 27, 3) := by decide +kernel
theorem dX3_liars_17 : decode cX3_liars 17 = .ok (.iload_n 1, 1) := by decide +kernel
theorem dX3_liars_18 : decode cX3_liars 18 = .ok (.aload_n 0, 1) := by decide +kernel
theorem dX3_liars_19 : decode cX3_liars 19 = .ok (.iload_n 2, 1) := by decide +kernel
theorem dX3_liars_20 : decode cX3_liars 20 = .ok (.invokevirtual 239, 3) := by decide +kernel
theorem dX3_liars_23 : decode cX3_liars 23 = .ok (.ifCond .eq 9, 3) := by decide +kernel
theorem dX3_liars_26 : decode cX3_liars 26 = .ok (.iconst 1, 1) := by decide +kernel
theorem dX3_liars_27 : decode cX3_liars 27 = .ok (.iload_n 2, 1) := by decide +kernel
theorem dX3_liars_28 : decode cX3_liars 28 = .ok (.ishl, 1) := by decide +kernel
theorem dX3_liars_29 : decode cX3_liars 29 = .ok (.goto 4, 3) := by decide +kernel
theorem dX3_liars_32 : decode cX3_liars 32 = .ok (.iconst 0, 1) := by decide +kernel
theorem dX3_liars_33 : decode cX3_liars 33 = .ok (.ior, 1) := by decide +kernel
theorem dX3_liars_34 : decode cX3_liars 34 = .ok (.istore_n 1, 1) := by decide +kernel
theorem dX3_liars_35 : decode cX3_liars 35 = .ok (.iinc 2 1, 3) := by decide +kernel
theorem dX3_liars_38 : decode cX3_liars 38 = .ok (.goto (-29), 3) := by decide +kernel
theorem dX3_liars_41 : decode cX3_liars 41 = .ok (.iload_n 1, 1) := by decide +kernel
theorem dX3_liars_42 : decode cX3_liars 42 = .ok (.ireturn, 1) := by decide +kernel
set_option maxRecDepth 20000 in
theorem ggX3_fitBoth_X3_answerOf : GoodIn wsX3_fitBoth wsX3_answerOf := goodIn_r _ [9, 10, 11, 12, 13, 14, 15, 8, 16, 17, 18, 19, 20, 21, 22, 23, 24, 25, 26, 27, 28, 29, 30, 31, 32, 33, 34, 35, 36, 37, 38, 39, 40, 41, 42, 43, 44, 45, 46, 47, 48, 49, 50, 51, 52, 53, 54, 55, 56, 57, 58, 59, 60] (by decide +kernel) (by decide +kernel)
set_option maxRecDepth 20000 in
theorem gX3_fitBoth_X3_answerOf : GoodIn wsX3_fitBoth (wsV RX3 186 RX3 yX3_answerOf wsX3_answerOf) := goodIn_app (goodIn_of _ (by decide +kernel)) ggX3_fitBoth_X3_answerOf
theorem dX3_fitBoth_0 : decode cX3_fitBoth 0 = .ok (.iconst 0, 1) := by decide +kernel
theorem dX3_fitBoth_1 : decode cX3_fitBoth 1 = .ok (.istore_n 3, 1) := by decide +kernel
theorem dX3_fitBoth_2 : decode cX3_fitBoth 2 = .ok (.iload_n 3, 1) := by decide +kernel
theorem dX3_fitBoth_3 : decode cX3_fitBoth 3 = .ok (.bipush 64, 2) := by decide +kernel
theorem dX3_fitBoth_5 : decode cX3_fitBoth 5 = .ok (.if_icmp .ge 75, 3) := by decide +kernel
theorem dX3_fitBoth_8 : decode cX3_fitBoth 8 = .ok (.aload_n 0, 1) := by decide +kernel
theorem dX3_fitBoth_9 : decode cX3_fitBoth 9 = .ok (.aload_n 0, 1) := by decide +kernel
theorem dX3_fitBoth_10 : decode cX3_fitBoth 10 = .ok (.getfield 31, 3) := by decide +kernel
theorem dX3_fitBoth_13 : decode cX3_fitBoth 13 = .ok (.iload_n 1, 1) := by decide +kernel
theorem dX3_fitBoth_14 : decode cX3_fitBoth 14 = .ok (.iaload, 1) := by decide +kernel
theorem dX3_fitBoth_15 : decode cX3_fitBoth 15 = .ok (.aload_n 0, 1) := by decide +kernel
theorem dX3_fitBoth_16 : decode cX3_fitBoth 16 = .ok (.getfield 34, 3) := by decide +kernel
theorem dX3_fitBoth_19 : decode cX3_fitBoth 19 = .ok (.iload_n 1, 1) := by decide +kernel
theorem dX3_fitBoth_20 : decode cX3_fitBoth 20 = .ok (.iaload, 1) := by decide +kernel
theorem dX3_fitBoth_21 : decode cX3_fitBoth 21 = .ok (.iload_n 3, 1) := by decide +kernel
theorem dX3_fitBoth_22 : decode cX3_fitBoth 22 = .ok (.aload_n 0, 1) := by decide +kernel
theorem dX3_fitBoth_23 : decode cX3_fitBoth 23 = .ok (.getfield 40, 3) := by decide +kernel
theorem dX3_fitBoth_26 : decode cX3_fitBoth 26 = .ok (.iload_n 1, 1) := by decide +kernel
theorem dX3_fitBoth_27 : decode cX3_fitBoth 27 = .ok (.iaload, 1) := by decide +kernel
theorem dX3_fitBoth_28 : decode cX3_fitBoth 28 = .ok (.invokevirtual 186, 3) := by decide +kernel
theorem dX3_fitBoth_31 : decode cX3_fitBoth 31 = .ok (.aload_n 0, 1) := by decide +kernel
theorem dX3_fitBoth_32 : decode cX3_fitBoth 32 = .ok (.getfield 37, 3) := by decide +kernel
theorem dX3_fitBoth_35 : decode cX3_fitBoth 35 = .ok (.iload_n 1, 1) := by decide +kernel
theorem dX3_fitBoth_36 : decode cX3_fitBoth 36 = .ok (.iaload, 1) := by decide +kernel
theorem dX3_fitBoth_37 : decode cX3_fitBoth 37 = .ok (.if_icmp .ne 37, 3) := by decide +kernel
theorem dX3_fitBoth_40 : decode cX3_fitBoth 40 = .ok (.aload_n 0, 1) := by decide +kernel
theorem dX3_fitBoth_41 : decode cX3_fitBoth 41 = .ok (.aload_n 0, 1) := by decide +kernel
theorem dX3_fitBoth_42 : decode cX3_fitBoth 42 = .ok (.getfield 31, 3) := by decide +kernel
theorem dX3_fitBoth_45 : decode cX3_fitBoth 45 = .ok (.iload_n 2, 1) := by decide +kernel
theorem dX3_fitBoth_46 : decode cX3_fitBoth 46 = .ok (.iaload, 1) := by decide +kernel
theorem dX3_fitBoth_47 : decode cX3_fitBoth 47 = .ok (.aload_n 0, 1) := by decide +kernel
theorem dX3_fitBoth_48 : decode cX3_fitBoth 48 = .ok (.getfield 34, 3) := by decide +kernel
theorem dX3_fitBoth_51 : decode cX3_fitBoth 51 = .ok (.iload_n 2, 1) := by decide +kernel
theorem dX3_fitBoth_52 : decode cX3_fitBoth 52 = .ok (.iaload, 1) := by decide +kernel
theorem dX3_fitBoth_53 : decode cX3_fitBoth 53 = .ok (.iload_n 3, 1) := by decide +kernel
theorem dX3_fitBoth_54 : decode cX3_fitBoth 54 = .ok (.aload_n 0, 1) := by decide +kernel
theorem dX3_fitBoth_55 : decode cX3_fitBoth 55 = .ok (.getfield 40, 3) := by decide +kernel
theorem dX3_fitBoth_58 : decode cX3_fitBoth 58 = .ok (.iload_n 2, 1) := by decide +kernel
theorem dX3_fitBoth_59 : decode cX3_fitBoth 59 = .ok (.iaload, 1) := by decide +kernel
theorem dX3_fitBoth_60 : decode cX3_fitBoth 60 = .ok (.invokevirtual 186, 3) := by decide +kernel
theorem dX3_fitBoth_63 : decode cX3_fitBoth 63 = .ok (.aload_n 0, 1) := by decide +kernel
theorem dX3_fitBoth_64 : decode cX3_fitBoth 64 = .ok (.getfield 37, 3) := by decide +kernel
theorem dX3_fitBoth_67 : decode cX3_fitBoth 67 = .ok (.iload_n 2, 1) := by decide +kernel
theorem dX3_fitBoth_68 : decode cX3_fitBoth 68 = .ok (.iaload, 1) := by decide +kernel
theorem dX3_fitBoth_69 : decode cX3_fitBoth 69 = .ok (.if_icmp .ne 5, 3) := by decide +kernel
theorem dX3_fitBoth_72 : decode cX3_fitBoth 72 = .ok (.iconst 1, 1) := by decide +kernel
theorem dX3_fitBoth_73 : decode cX3_fitBoth 73 = .ok (.ireturn, 1) := by decide +kernel
theorem dX3_fitBoth_74 : decode cX3_fitBoth 74 = .ok (.iinc 3 1, 3) := by decide +kernel
theorem dX3_fitBoth_77 : decode cX3_fitBoth 77 = .ok (.goto (-75), 3) := by decide +kernel
theorem dX3_fitBoth_80 : decode cX3_fitBoth 80 = .ok (.iconst 0, 1) := by decide +kernel
theorem dX3_fitBoth_81 : decode cX3_fitBoth 81 = .ok (.ireturn, 1) := by decide +kernel
set_option maxRecDepth 20000 in
theorem ggX3_clash_X3_fitBoth : GoodIn wsX3_clash wsX3_fitBoth := goodIn_r _ [6, 7, 8, 9, 10, 11, 12, 13, 5, 14, 15, 16, 17, 18, 19, 20, 21, 22, 23, 24, 25, 26, 27, 28, 29, 30, 31, 32, 33, 34, 35, 36, 37, 38, 39, 40, 41, 42, 43, 44, 45, 46, 47, 48, 49, 50, 51, 52, 53, 54, 55, 56, 57, 58, 59, 60, 61, 62, 63, 64, 65] (by decide +kernel) (by decide +kernel)
set_option maxRecDepth 20000 in
theorem gX3_clash_X3_fitBoth : GoodIn wsX3_clash (wsV RX3 242 RX3 yX3_fitBoth wsX3_fitBoth) := goodIn_app (goodIn_of _ (by decide +kernel)) ggX3_clash_X3_fitBoth
theorem dX3_clash_0 : decode cX3_clash 0 = .ok (.iconst 0, 1) := by decide +kernel
theorem dX3_clash_1 : decode cX3_clash 1 = .ok (.istore_n 1, 1) := by decide +kernel
theorem dX3_clash_2 : decode cX3_clash 2 = .ok (.iload_n 1, 1) := by decide +kernel
theorem dX3_clash_3 : decode cX3_clash 3 = .ok (.aload_n 0, 1) := by decide +kernel
theorem dX3_clash_4 : decode cX3_clash 4 = .ok (.getfield 146, 3) := by decide +kernel
theorem dX3_clash_7 : decode cX3_clash 7 = .ok (.if_icmp .ge 43, 3) := by decide +kernel
theorem dX3_clash_10 : decode cX3_clash 10 = .ok (.iload_n 1, 1) := by decide +kernel
theorem dX3_clash_11 : decode cX3_clash 11 = .ok (.iconst 1, 1) := by decide +kernel
theorem dX3_clash_12 : decode cX3_clash 12 = .ok (.iadd, 1) := by decide +kernel
theorem dX3_clash_13 : decode cX3_clash 13 = .ok (.istore_n 2, 1) := by decide +kernel
theorem dX3_clash_14 : decode cX3_clash 14 = .ok (.iload_n 2, 1) := by decide +kernel
theorem dX3_clash_15 : decode cX3_clash 15 = .ok (.aload_n 0, 1) := by decide +kernel
theorem dX3_clash_16 : decode cX3_clash 16 = .ok (.getfield 146, 3) := by decide +kernel
theorem dX3_clash_19 : decode cX3_clash 19 = .ok (.if_icmp .ge 25, 3) := by decide +kernel
theorem dX3_clash_22 : decode cX3_clash 22 = .ok (.aload_n 0, 1) := by decide +kernel
theorem dX3_clash_23 : decode cX3_clash 23 = .ok (.iload_n 1, 1) := by decide +kernel
theorem dX3_clash_24 : decode cX3_clash 24 = .ok (.iload_n 2, 1) := by decide +kernel
theorem dX3_clash_25 : decode cX3_clash 25 = .ok (.invokevirtual 242, 3) := by decide +kernel
theorem dX3_clash_28 : decode cX3_clash 28 = .ok (.ifCond .ne 10, 3) := by decide +kernel
theorem dX3_clash_31 : decode cX3_clash 31 = .ok (.bipush 100, 2) := by decide +kernel
theorem dX3_clash_33 : decode cX3_clash 33 = .ok (.iload_n 1, 1) := by decide +kernel
theorem dX3_clash_34 : decode cX3_clash 34 = .ok (.imul, 1) := by decide +kernel
theorem dX3_clash_35 : decode cX3_clash 35 = .ok (.iload_n 2, 1) := by decide +kernel
theorem dX3_clash_36 : decode cX3_clash 36 = .ok (.iadd, 1) := by decide +kernel
theorem dX3_clash_37 : decode cX3_clash 37 = .ok (.ireturn, 1) := by decide +kernel
theorem dX3_clash_38 : decode cX3_clash 38 = .ok (.iinc 2 1, 3) := by decide +kernel
theorem dX3_clash_41 : decode cX3_clash 41 = .ok (.goto (-27), 3) := by decide +kernel
theorem dX3_clash_44 : decode cX3_clash 44 = .ok (.iinc 1 1, 3) := by decide +kernel
theorem dX3_clash_47 : decode cX3_clash 47 = .ok (.goto (-45), 3) := by decide +kernel
theorem dX3_clash_50 : decode cX3_clash 50 = .ok (.bipush (-9), 2) := by decide +kernel
theorem dX3_clash_52 : decode cX3_clash 52 = .ok (.ireturn, 1) := by decide +kernel
set_option maxRecDepth 20000 in
theorem ggX3_trueOf_X3_isWitness : GoodIn wsX3_trueOf wsX3_isWitness := goodIn_r _ [8, 9, 31, 32, 33, 34, 35, 36, 37, 38, 39, 40, 41, 42, 43, 44, 45, 46, 47, 48, 49, 50, 51, 52, 53, 54, 55, 56, 57, 58, 59, 60, 61, 62, 63] (by decide +kernel) (by decide +kernel)
set_option maxRecDepth 20000 in
theorem gX3_trueOf_X3_isWitness : GoodIn wsX3_trueOf (wsV RX3 121 RX3 yX3_isWitness wsX3_isWitness) := goodIn_app (goodIn_of _ (by decide +kernel)) ggX3_trueOf_X3_isWitness
set_option maxRecDepth 20000 in
theorem ggX3_trueOf_X3_no : GoodIn wsX3_trueOf wsX3_no := goodIn_r _ [13, 14, 31, 32, 33, 34, 35, 36, 37, 38, 39, 40, 41, 42, 43, 44, 45, 46, 47, 48, 49, 50, 51, 52, 53, 54, 55, 56, 57, 58, 59, 60, 61, 62, 63] (by decide +kernel) (by decide +kernel)
set_option maxRecDepth 20000 in
theorem gX3_trueOf_X3_no : GoodIn wsX3_trueOf (wsV RX3 86 RX3 yX3_no wsX3_no) := goodIn_app (goodIn_of _ (by decide +kernel)) ggX3_trueOf_X3_no
set_option maxRecDepth 20000 in
theorem ggX3_trueOf_X3_trueAt : GoodIn wsX3_trueOf wsX3_trueAt := goodIn_r _ [18, 19, 20, 21, 22, 23, 7, 24, 25, 26, 27, 28, 29, 30, 31, 32, 33, 34, 35, 36, 37, 38, 39, 40, 41, 42, 43, 44, 45, 46, 47, 48, 49, 50, 51, 52, 53, 54, 55, 56, 57, 58, 59, 60, 61, 62, 63] (by decide +kernel) (by decide +kernel)
set_option maxRecDepth 20000 in
theorem gX3_trueOf_X3_trueAt : GoodIn wsX3_trueOf (wsV RX3 233 RX3 yX3_trueAt wsX3_trueAt) := goodIn_app (goodIn_of _ (by decide +kernel)) ggX3_trueOf_X3_trueAt
theorem dX3_trueOf_0 : decode cX3_trueOf 0 = .ok (.aload_n 0, 1) := by decide +kernel
theorem dX3_trueOf_1 : decode cX3_trueOf 1 = .ok (.iload_n 1, 1) := by decide +kernel
theorem dX3_trueOf_2 : decode cX3_trueOf 2 = .ok (.invokevirtual 121, 3) := by decide +kernel
theorem dX3_trueOf_5 : decode cX3_trueOf 5 = .ok (.ifCond .ne 9, 3) := by decide +kernel
theorem dX3_trueOf_8 : decode cX3_trueOf 8 = .ok (.aload_n 0, 1) := by decide +kernel
theorem dX3_trueOf_9 : decode cX3_trueOf 9 = .ok (.iconst (-1), 1) := by decide +kernel
theorem dX3_trueOf_10 : decode cX3_trueOf 10 = .ok (.invokevirtual 86, 3) := by decide +kernel
theorem dX3_trueOf_13 : decode cX3_trueOf 13 = .ok (.ireturn, 1) := by decide +kernel
theorem dX3_trueOf_14 : decode cX3_trueOf 14 = .ok (.iconst 0, 1) := by decide +kernel
theorem dX3_trueOf_15 : decode cX3_trueOf 15 = .ok (.istore_n 2, 1) := by decide +kernel
theorem dX3_trueOf_16 : decode cX3_trueOf 16 = .ok (.iconst 0, 1) := by decide +kernel
theorem dX3_trueOf_17 : decode cX3_trueOf 17 = .ok (.istore_n 3, 1) := by decide +kernel
theorem dX3_trueOf_18 : decode cX3_trueOf 18 = .ok (.iload_n 3, 1) := by decide +kernel
theorem dX3_trueOf_19 : decode cX3_trueOf 19 = .ok (.aload_n 0, 1) := by decide +kernel
theorem dX3_trueOf_20 : decode cX3_trueOf 20 = .ok (.getfield 146, 3) := by decide +kernel
theorem dX3_trueOf_23 : decode cX3_trueOf 23 = .ok (.if_icmp .ge 40, 3) := by decide +kernel
theorem dX3_trueOf_26 : decode cX3_trueOf 26 = .ok (.iload_n 2, 1) := by decide +kernel
theorem dX3_trueOf_27 : decode cX3_trueOf 27 = .ok (.aload_n 0, 1) := by decide +kernel
theorem dX3_trueOf_28 : decode cX3_trueOf 28 = .ok (.getfield 31, 3) := by decide +kernel
theorem dX3_trueOf_31 : decode cX3_trueOf 31 = .ok (.iload_n 3, 1) := by decide +kernel
theorem dX3_trueOf_32 : decode cX3_trueOf 32 = .ok (.iaload, 1) := by decide +kernel
theorem dX3_trueOf_33 : decode cX3_trueOf 33 = .ok (.iload_n 1, 1) := by decide +kernel
theorem dX3_trueOf_34 : decode cX3_trueOf 34 = .ok (.if_icmp .ne 20, 3) := by decide +kernel
theorem dX3_trueOf_37 : decode cX3_trueOf 37 = .ok (.aload_n 0, 1) := by decide +kernel
theorem dX3_trueOf_38 : decode cX3_trueOf 38 = .ok (.iload_n 3, 1) := by decide +kernel
theorem dX3_trueOf_39 : decode cX3_trueOf 39 = .ok (.aload_n 0, 1) := by decide +kernel
theorem dX3_trueOf_40 : decode cX3_trueOf 40 = .ok (.getfield 134, 3) := by decide +kernel
theorem dX3_trueOf_43 : decode cX3_trueOf 43 = .ok (.invokevirtual 233, 3) := by decide +kernel
theorem dX3_trueOf_46 : decode cX3_trueOf 46 = .ok (.iconst 1, 1) := by decide +kernel
theorem dX3_trueOf_47 : decode cX3_trueOf 47 = .ok (.if_icmp .ne 7, 3) := by decide +kernel
theorem dX3_trueOf_50 : decode cX3_trueOf 50 = .ok (.iconst 1, 1) := by decide +kernel
theorem dX3_trueOf_51 : decode cX3_trueOf 51 = .ok (.goto 4, 3) := by decide +kernel
theorem dX3_trueOf_54 : decode cX3_trueOf 54 = .ok (.iconst 0, 1) := by decide +kernel
theorem dX3_trueOf_55 : decode cX3_trueOf 55 = .ok (.iadd, 1) := by decide +kernel
theorem dX3_trueOf_56 : decode cX3_trueOf 56 = .ok (.istore_n 2, 1) := by decide +kernel
theorem dX3_trueOf_57 : decode cX3_trueOf 57 = .ok (.iinc 3 1, 3) := by decide +kernel
theorem dX3_trueOf_60 : decode cX3_trueOf 60 = .ok (.goto (-42), 3) := by decide +kernel
theorem dX3_trueOf_63 : decode cX3_trueOf 63 = .ok (.iload_n 2, 1) := by decide +kernel
theorem dX3_trueOf_64 : decode cX3_trueOf 64 = .ok (.ireturn, 1) := by decide +kernel
theorem dX3_talker_0 : decode cX3_talker 0 = .ok (.bipush (-9), 2) := by decide +kernel
theorem dX3_talker_2 : decode cX3_talker 2 = .ok (.istore_n 1, 1) := by decide +kernel
theorem dX3_talker_3 : decode cX3_talker 3 = .ok (.iconst 0, 1) := by decide +kernel
theorem dX3_talker_4 : decode cX3_talker 4 = .ok (.istore_n 2, 1) := by decide +kernel
theorem dX3_talker_5 : decode cX3_talker 5 = .ok (.iconst 0, 1) := by decide +kernel
theorem dX3_talker_6 : decode cX3_talker 6 = .ok (.istore_n 3, 1) := by decide +kernel
theorem dX3_talker_7 : decode cX3_talker 7 = .ok (.iload_n 3, 1) := by decide +kernel
theorem dX3_talker_8 : decode cX3_talker 8 = .ok (.aload_n 0, 1) := by decide +kernel
theorem dX3_talker_9 : decode cX3_talker 9 = .ok (.getfield 76, 3) := by decide +kernel
theorem dX3_talker_12 : decode cX3_talker 12 = .ok (.if_icmp .ge 76, 3) := by decide +kernel
theorem dX3_talker_15 : decode cX3_talker 15 = .ok (.iconst 0, 1) := by decide +kernel
theorem dX3_talker_16 : decode cX3_talker 16 = .ok (.istore 4, 2) := by decide +kernel
theorem dX3_talker_18 : decode cX3_talker 18 = .ok (.iconst 0, 1) := by decide +kernel
theorem dX3_talker_19 : decode cX3_talker 19 = .ok (.istore 5, 2) := by decide +kernel
theorem dX3_talker_21 : decode cX3_talker 21 = .ok (.iload 5, 2) := by decide +kernel
theorem dX3_talker_23 : decode cX3_talker 23 = .ok (.aload_n 0, 1) := by decide +kernel
theorem dX3_talker_24 : decode cX3_talker 24 = .ok (.getfield 146, 3) := by decide +kernel
theorem dX3_talker_27 : decode cX3_talker 27 = .ok (.if_icmp .ge 41, 3) := by decide +kernel
theorem dX3_talker_30 : decode cX3_talker 30 = .ok (.iload 4, 2) := by decide +kernel
theorem dX3_talker_32 : decode cX3_talker 32 = .ok (.aload_n 0, 1) := by decide +kernel
theorem dX3_talker_33 : decode cX3_talker 33 = .ok (.getfield 31, 3) := by decide +kernel
theorem dX3_talker_36 : decode cX3_talker 36 = .ok (.iload 5, 2) := by decide +kernel
theorem dX3_talker_38 : decode cX3_talker 38 = .ok (.iaload, 1) := by decide +kernel
theorem dX3_talker_39 : decode cX3_talker 39 = .ok (.iload_n 3, 1) := by decide +kernel
theorem dX3_talker_40 : decode cX3_talker 40 = .ok (.if_icmp .ne 18, 3) := by decide +kernel
theorem dX3_talker_43 : decode cX3_talker 43 = .ok (.aload_n 0, 1) := by decide +kernel
theorem dX3_talker_44 : decode cX3_talker 44 = .ok (.getfield 37, 3) := by decide +kernel
theorem dX3_talker_47 : decode cX3_talker 47 = .ok (.iload 5, 2) := by decide +kernel
theorem dX3_talker_49 : decode cX3_talker 49 = .ok (.iaload, 1) := by decide +kernel
theorem dX3_talker_50 : decode cX3_talker 50 = .ok (.iconst 2, 1) := by decide +kernel
theorem dX3_talker_51 : decode cX3_talker 51 = .ok (.if_icmp .eq 7, 3) := by decide +kernel
theorem dX3_talker_54 : decode cX3_talker 54 = .ok (.iconst 1, 1) := by decide +kernel
theorem dX3_talker_55 : decode cX3_talker 55 = .ok (.goto 4, 3) := by decide +kernel
theorem dX3_talker_58 : decode cX3_talker 58 = .ok (.iconst 0, 1) := by decide +kernel
theorem dX3_talker_59 : decode cX3_talker 59 = .ok (.iadd, 1) := by decide +kernel
theorem dX3_talker_60 : decode cX3_talker 60 = .ok (.istore 4, 2) := by decide +kernel
theorem dX3_talker_62 : decode cX3_talker 62 = .ok (.iinc 5 1, 3) := by decide +kernel
theorem dX3_talker_65 : decode cX3_talker 65 = .ok (.goto (-44), 3) := by decide +kernel
theorem dX3_talker_68 : decode cX3_talker 68 = .ok (.iload 4, 2) := by decide +kernel
theorem dX3_talker_70 : decode cX3_talker 70 = .ok (.iload_n 2, 1) := by decide +kernel
theorem dX3_talker_71 : decode cX3_talker 71 = .ok (.if_icmp .gt 6, 3) := by decide +kernel
theorem dX3_talker_74 : decode cX3_talker 74 = .ok (.goto 8, 3) := by decide +kernel
theorem dX3_talker_77 : decode cX3_talker 77 = .ok (.iload_n 3, 1) := by decide +kernel
theorem dX3_talker_78 : decode cX3_talker 78 = .ok (.istore_n 1, 1) := by decide +kernel
theorem dX3_talker_79 : decode cX3_talker 79 = .ok (.iload 4, 2) := by decide +kernel
theorem dX3_talker_81 : decode cX3_talker 81 = .ok (.istore_n 2, 1) := by decide +kernel
theorem dX3_talker_82 : decode cX3_talker 82 = .ok (.iinc 3 1, 3) := by decide +kernel
theorem dX3_talker_85 : decode cX3_talker 85 = .ok (.goto (-78), 3) := by decide +kernel
theorem dX3_talker_88 : decode cX3_talker 88 = .ok (.iload_n 1, 1) := by decide +kernel
theorem dX3_talker_89 : decode cX3_talker 89 = .ok (.ireturn, 1) := by decide +kernel
set_option maxRecDepth 20000 in
theorem ggX3_betrays_X3_no : GoodIn wsX3_betrays wsX3_no := goodIn_r _ [11, 12, 34, 35, 36, 37, 38, 39, 40, 41, 42, 43, 44, 45, 46, 47, 48, 49, 50, 51, 52, 53, 54, 55, 56, 57, 58, 59, 60, 61, 62, 63, 64, 65, 66] (by decide +kernel) (by decide +kernel)
set_option maxRecDepth 20000 in
theorem gX3_betrays_X3_no : GoodIn wsX3_betrays (wsV RX3 86 RX3 yX3_no wsX3_no) := goodIn_app (goodIn_of _ (by decide +kernel)) ggX3_betrays_X3_no
set_option maxRecDepth 20000 in
theorem ggX3_betrays_X3_answerOf : GoodIn wsX3_betrays wsX3_answerOf := goodIn_r _ [16, 17, 18, 2, 19, 20, 21, 10, 22, 23, 24, 25, 26, 27, 28, 29, 30, 31, 32, 33, 34, 35, 36, 37, 38, 39, 40, 41, 42, 43, 44, 45, 46, 47, 48, 49, 50, 51, 52, 53, 54, 55, 56, 57, 58, 59, 60, 61, 62, 63, 64, 65, 66] (by decide +kernel) (by decide +kernel)
set_option maxRecDepth 20000 in
theorem gX3_betrays_X3_answerOf : GoodIn wsX3_betrays (wsV RX3 186 RX3 yX3_answerOf wsX3_answerOf) := goodIn_app (goodIn_of _ (by decide +kernel)) ggX3_betrays_X3_answerOf
theorem dX3_betrays_0 : decode cX3_betrays 0 = .ok (.iload_n 1, 1) := by decide +kernel
theorem dX3_betrays_1 : decode cX3_betrays 1 = .ok (.ifCond .lt 11, 3) := by decide +kernel
theorem dX3_betrays_4 : decode cX3_betrays 4 = .ok (.iload_n 1, 1) := by decide +kernel
theorem dX3_betrays_5 : decode cX3_betrays 5 = .ok (.aload_n 0, 1) := by decide +kernel
theorem dX3_betrays_6 : decode cX3_betrays 6 = .ok (.getfield 146, 3) := by decide +kernel
theorem dX3_betrays_9 : decode cX3_betrays 9 = .ok (.if_icmp .lt 9, 3) := by decide +kernel
theorem dX3_betrays_12 : decode cX3_betrays 12 = .ok (.aload_n 0, 1) := by decide +kernel
theorem dX3_betrays_13 : decode cX3_betrays 13 = .ok (.iconst (-1), 1) := by decide +kernel
theorem dX3_betrays_14 : decode cX3_betrays 14 = .ok (.invokevirtual 86, 3) := by decide +kernel
theorem dX3_betrays_17 : decode cX3_betrays 17 = .ok (.ireturn, 1) := by decide +kernel
theorem dX3_betrays_18 : decode cX3_betrays 18 = .ok (.iconst 0, 1) := by decide +kernel
theorem dX3_betrays_19 : decode cX3_betrays 19 = .ok (.istore_n 2, 1) := by decide +kernel
theorem dX3_betrays_20 : decode cX3_betrays 20 = .ok (.iconst 0, 1) := by decide +kernel
theorem dX3_betrays_21 : decode cX3_betrays 21 = .ok (.istore_n 3, 1) := by decide +kernel
theorem dX3_betrays_22 : decode cX3_betrays 22 = .ok (.iload_n 3, 1) := by decide +kernel
theorem dX3_betrays_23 : decode cX3_betrays 23 = .ok (.aload_n 0, 1) := by decide +kernel
theorem dX3_betrays_24 : decode cX3_betrays 24 = .ok (.getfield 70, 3) := by decide +kernel
theorem dX3_betrays_27 : decode cX3_betrays 27 = .ok (.if_icmp .ge 47, 3) := by decide +kernel
theorem dX3_betrays_30 : decode cX3_betrays 30 = .ok (.iload_n 2, 1) := by decide +kernel
theorem dX3_betrays_31 : decode cX3_betrays 31 = .ok (.aload_n 0, 1) := by decide +kernel
theorem dX3_betrays_32 : decode cX3_betrays 32 = .ok (.aload_n 0, 1) := by decide +kernel
theorem dX3_betrays_33 : decode cX3_betrays 33 = .ok (.getfield 31, 3) := by decide +kernel
theorem dX3_betrays_36 : decode cX3_betrays 36 = .ok (.iload_n 1, 1) := by decide +kernel
theorem dX3_betrays_37 : decode cX3_betrays 37 = .ok (.iaload, 1) := by decide +kernel
theorem dX3_betrays_38 : decode cX3_betrays 38 = .ok (.iload_n 3, 1) := by decide +kernel
theorem dX3_betrays_39 : decode cX3_betrays 39 = .ok (.aload_n 0, 1) := by decide +kernel
theorem dX3_betrays_40 : decode cX3_betrays 40 = .ok (.getfield 134, 3) := by decide +kernel
theorem dX3_betrays_43 : decode cX3_betrays 43 = .ok (.aload_n 0, 1) := by decide +kernel
theorem dX3_betrays_44 : decode cX3_betrays 44 = .ok (.getfield 40, 3) := by decide +kernel
theorem dX3_betrays_47 : decode cX3_betrays 47 = .ok (.iload_n 1, 1) := by decide +kernel
theorem dX3_betrays_48 : decode cX3_betrays 48 = .ok (.iaload, 1) := by decide +kernel
theorem dX3_betrays_49 : decode cX3_betrays 49 = .ok (.invokevirtual 186, 3) := by decide +kernel
theorem dX3_betrays_52 : decode cX3_betrays 52 = .ok (.aload_n 0, 1) := by decide +kernel
theorem dX3_betrays_53 : decode cX3_betrays 53 = .ok (.getfield 37, 3) := by decide +kernel
theorem dX3_betrays_56 : decode cX3_betrays 56 = .ok (.iload_n 1, 1) := by decide +kernel
theorem dX3_betrays_57 : decode cX3_betrays 57 = .ok (.iaload, 1) := by decide +kernel
theorem dX3_betrays_58 : decode cX3_betrays 58 = .ok (.if_icmp .ne 7, 3) := by decide +kernel
theorem dX3_betrays_61 : decode cX3_betrays 61 = .ok (.iconst 1, 1) := by decide +kernel
theorem dX3_betrays_62 : decode cX3_betrays 62 = .ok (.goto 4, 3) := by decide +kernel
theorem dX3_betrays_65 : decode cX3_betrays 65 = .ok (.iconst 0, 1) := by decide +kernel
theorem dX3_betrays_66 : decode cX3_betrays 66 = .ok (.iadd, 1) := by decide +kernel
theorem dX3_betrays_67 : decode cX3_betrays 67 = .ok (.istore_n 2, 1) := by decide +kernel
theorem dX3_betrays_68 : decode cX3_betrays 68 = .ok (.iinc 3 1, 3) := by decide +kernel
theorem dX3_betrays_71 : decode cX3_betrays 71 = .ok (.goto (-49), 3) := by decide +kernel
theorem dX3_betrays_74 : decode cX3_betrays 74 = .ok (.iload_n 2, 1) := by decide +kernel
theorem dX3_betrays_75 : decode cX3_betrays 75 = .ok (.ireturn, 1) := by decide +kernel
theorem dX3_divisor_0 : decode cX3_divisor 0 = .ok (.lload_n 0, 1) := by decide +kernel
theorem dX3_divisor_1 : decode cX3_divisor 1 = .ok (.lstore 4, 2) := by decide +kernel
theorem dX3_divisor_3 : decode cX3_divisor 3 = .ok (.lload_n 2, 1) := by decide +kernel
theorem dX3_divisor_4 : decode cX3_divisor 4 = .ok (.lstore 6, 2) := by decide +kernel
theorem dX3_divisor_6 : decode cX3_divisor 6 = .ok (.lload 6, 2) := by decide +kernel
theorem dX3_divisor_8 : decode cX3_divisor 8 = .ok (.lconst 0, 1) := by decide +kernel
theorem dX3_divisor_9 : decode cX3_divisor 9 = .ok (.lcmp, 1) := by decide +kernel
theorem dX3_divisor_10 : decode cX3_divisor 10 = .ok (.ifCond .eq 21, 3) := by decide +kernel
theorem dX3_divisor_13 : decode cX3_divisor 13 = .ok (.lload 4, 2) := by decide +kernel
theorem dX3_divisor_15 : decode cX3_divisor 15 = .ok (.lload 6, 2) := by decide +kernel
theorem dX3_divisor_17 : decode cX3_divisor 17 = .ok (.lrem, 1) := by decide +kernel
theorem dX3_divisor_18 : decode cX3_divisor 18 = .ok (.lstore 8, 2) := by decide +kernel
theorem dX3_divisor_20 : decode cX3_divisor 20 = .ok (.lload 6, 2) := by decide +kernel
theorem dX3_divisor_22 : decode cX3_divisor 22 = .ok (.lstore 4, 2) := by decide +kernel
theorem dX3_divisor_24 : decode cX3_divisor 24 = .ok (.lload 8, 2) := by decide +kernel
theorem dX3_divisor_26 : decode cX3_divisor 26 = .ok (.lstore 6, 2) := by decide +kernel
theorem dX3_divisor_28 : decode cX3_divisor 28 = .ok (.goto (-22), 3) := by decide +kernel
theorem dX3_divisor_31 : decode cX3_divisor 31 = .ok (.lload 4, 2) := by decide +kernel
theorem dX3_divisor_33 : decode cX3_divisor 33 = .ok (.lreturn, 1) := by decide +kernel
set_option maxRecDepth 20000 in
theorem ggX3_partOf_X3_divisor : GoodIn wsX3_partOf wsX3_divisor := goodIn_r _ [4] (by decide +kernel) (by decide +kernel)
set_option maxRecDepth 20000 in
theorem gX3_partOf_X3_divisor : GoodIn wsX3_partOf (va_wsS RX3 245 yX3_divisor wsX3_divisor) := goodIn_app (goodIn_of _ (by decide +kernel)) ggX3_partOf_X3_divisor
theorem dX3_partOf_0 : decode cX3_partOf 0 = .ok (.lload_n 2, 1) := by decide +kernel
theorem dX3_partOf_1 : decode cX3_partOf 1 = .ok (.lconst 0, 1) := by decide +kernel
theorem dX3_partOf_2 : decode cX3_partOf 2 = .ok (.lcmp, 1) := by decide +kernel
theorem dX3_partOf_3 : decode cX3_partOf 3 = .ok (.ifCond .ne 9, 3) := by decide +kernel
theorem dX3_partOf_6 : decode cX3_partOf 6 = .ok (.iload 4, 2) := by decide +kernel
theorem dX3_partOf_8 : decode cX3_partOf 8 = .ok (.i2l, 1) := by decide +kernel
theorem dX3_partOf_9 : decode cX3_partOf 9 = .ok (.goto 19, 3) := by decide +kernel
theorem dX3_partOf_12 : decode cX3_partOf 12 = .ok (.iload 4, 2) := by decide +kernel
theorem dX3_partOf_14 : decode cX3_partOf 14 = .ok (.ifCond .ne 7, 3) := by decide +kernel
theorem dX3_partOf_17 : decode cX3_partOf 17 = .ok (.lload_n 0, 1) := by decide +kernel
theorem dX3_partOf_18 : decode cX3_partOf 18 = .ok (.goto 4, 3) := by decide +kernel
theorem dX3_partOf_21 : decode cX3_partOf 21 = .ok (.lload_n 2, 1) := by decide +kernel
theorem dX3_partOf_22 : decode cX3_partOf 22 = .ok (.lload_n 0, 1) := by decide +kernel
theorem dX3_partOf_23 : decode cX3_partOf 23 = .ok (.lload_n 2, 1) := by decide +kernel
theorem dX3_partOf_24 : decode cX3_partOf 24 = .ok (.invokestatic 245, 3) := by decide +kernel
theorem dX3_partOf_27 : decode cX3_partOf 27 = .ok (.ldiv, 1) := by decide +kernel
theorem dX3_partOf_28 : decode cX3_partOf 28 = .ok (.lreturn, 1) := by decide +kernel
set_option maxRecDepth 20000 in
theorem ggX3_verdict_X3_isFact : GoodIn wsX3_verdict wsX3_isFact := goodIn_r _ [5] (by decide +kernel) (by decide +kernel)
set_option maxRecDepth 20000 in
theorem gX3_verdict_X3_isFact : GoodIn wsX3_verdict (va_wsS RX3 118 yX3_isFact wsX3_isFact) := goodIn_app (goodIn_of _ (by decide +kernel)) ggX3_verdict_X3_isFact
set_option maxRecDepth 20000 in
theorem ggX3_verdict_X3_isIn : GoodIn wsX3_verdict wsX3_isIn := goodIn_r _ [8] (by decide +kernel) (by decide +kernel)
set_option maxRecDepth 20000 in
theorem gX3_verdict_X3_isIn : GoodIn wsX3_verdict (va_wsS RX3 97 yX3_isIn wsX3_isIn) := goodIn_app (goodIn_of _ (by decide +kernel)) ggX3_verdict_X3_isIn
set_option maxRecDepth 20000 in
theorem ggX3_verdict_X3_lowest : GoodIn wsX3_verdict wsX3_lowest := goodIn_r _ [12, 13, 14, 67, 68, 69, 70, 71, 72, 73, 74, 75, 76, 77, 78, 79, 80, 81, 82, 83, 84, 85, 86, 87, 88, 89, 90, 91, 92, 93, 94, 95, 96, 97, 98, 99] (by decide +kernel) (by decide +kernel)
set_option maxRecDepth 20000 in
theorem gX3_verdict_X3_lowest : GoodIn wsX3_verdict (wsV RX3 249 RX3 yX3_lowest wsX3_lowest) := goodIn_app (goodIn_of _ (by decide +kernel)) ggX3_verdict_X3_lowest
set_option maxRecDepth 20000 in
theorem ggX3_verdict_X3_findFit : GoodIn wsX3_verdict wsX3_findFit := goodIn_r _ [18, 1, 19, 20, 21, 4, 22, 23, 24, 25, 26, 27, 28, 29, 30, 31, 32, 33, 34, 35, 36, 37, 38, 39, 40, 41, 42, 43, 44, 45, 46, 47, 48, 49, 50, 51, 52, 53, 54, 55, 56, 57, 67, 68, 69, 70, 71, 72, 73, 74, 75, 76, 77, 78, 79, 80, 81, 82, 83, 84, 85, 86, 87, 88, 89, 90, 91, 92, 93, 94, 95, 96, 97, 98, 99] (by decide +kernel) (by decide +kernel)
set_option maxRecDepth 20000 in
theorem gX3_verdict_X3_findFit : GoodIn wsX3_verdict (wsV RX3 206 RX3 yX3_findFit wsX3_findFit) := goodIn_app (goodIn_of _ (by decide +kernel)) ggX3_verdict_X3_findFit
set_option maxRecDepth 20000 in
theorem ggX3_verdict_X3_has : GoodIn wsX3_verdict wsX3_has := goodIn_r _ [48] (by decide +kernel) (by decide +kernel)
set_option maxRecDepth 20000 in
theorem gX3_verdict_X3_has : GoodIn wsX3_verdict (va_wsS RX3 177 yX3_has wsX3_has) := goodIn_app (goodIn_of _ (by decide +kernel)) ggX3_verdict_X3_has
set_option maxRecDepth 20000 in
theorem ggX3_verdict_X3_manyIn : GoodIn wsX3_verdict wsX3_manyIn := goodIn_r _ [60] (by decide +kernel) (by decide +kernel)
set_option maxRecDepth 20000 in
theorem gX3_verdict_X3_manyIn : GoodIn wsX3_verdict (va_wsS RX3 199 yX3_manyIn wsX3_manyIn) := goodIn_app (goodIn_of _ (by decide +kernel)) ggX3_verdict_X3_manyIn
set_option maxRecDepth 20000 in
theorem ggX3_verdict_X3_partOf : GoodIn wsX3_verdict wsX3_partOf := goodIn_r _ [63, 64, 65, 4, 66] (by decide +kernel) (by decide +kernel)
set_option maxRecDepth 20000 in
theorem gX3_verdict_X3_partOf : GoodIn wsX3_verdict (va_wsS RX3 253 yX3_partOf wsX3_partOf) := goodIn_app (goodIn_of _ (by decide +kernel)) ggX3_verdict_X3_partOf
theorem dX3_verdict_0 : decode cX3_verdict 0 = .ok (.iload_n 1, 1) := by decide +kernel
theorem dX3_verdict_1 : decode cX3_verdict 1 = .ok (.invokestatic 118, 3) := by decide +kernel
theorem dX3_verdict_4 : decode cX3_verdict 4 = .ok (.ifCond .ne 7, 3) := by decide +kernel
theorem dX3_verdict_7 : decode cX3_verdict 7 = .ok (.iconst (-1), 1) := by decide +kernel
theorem dX3_verdict_8 : decode cX3_verdict 8 = .ok (.goto 18, 3) := by decide +kernel
theorem dX3_verdict_11 : decode cX3_verdict 11 = .ok (.iload_n 2, 1) := by decide +kernel
theorem dX3_verdict_12 : decode cX3_verdict 12 = .ok (.iconst 0, 1) := by decide +kernel
theorem dX3_verdict_13 : decode cX3_verdict 13 = .ok (.iconst 1, 1) := by decide +kernel
theorem dX3_verdict_14 : decode cX3_verdict 14 = .ok (.invokestatic 97, 3) := by decide +kernel
theorem dX3_verdict_17 : decode cX3_verdict 17 = .ok (.ifCond .ne 8, 3) := by decide +kernel
theorem dX3_verdict_20 : decode cX3_verdict 20 = .ok (.bipush (-2), 2) := by decide +kernel
theorem dX3_verdict_22 : decode cX3_verdict 22 = .ok (.goto 4, 3) := by decide +kernel
theorem dX3_verdict_25 : decode cX3_verdict 25 = .ok (.iconst 0, 1) := by decide +kernel
theorem dX3_verdict_26 : decode cX3_verdict 26 = .ok (.istore_n 3, 1) := by decide +kernel
theorem dX3_verdict_27 : decode cX3_verdict 27 = .ok (.iload_n 3, 1) := by decide +kernel
theorem dX3_verdict_28 : decode cX3_verdict 28 = .ok (.ifCond .eq 9, 3) := by decide +kernel
theorem dX3_verdict_31 : decode cX3_verdict 31 = .ok (.aload_n 0, 1) := by decide +kernel
theorem dX3_verdict_32 : decode cX3_verdict 32 = .ok (.iload_n 3, 1) := by decide +kernel
theorem dX3_verdict_33 : decode cX3_verdict 33 = .ok (.invokevirtual 249, 3) := by decide +kernel
theorem dX3_verdict_36 : decode cX3_verdict 36 = .ok (.lreturn, 1) := by decide +kernel
theorem dX3_verdict_37 : decode cX3_verdict 37 = .ok (.aload_n 0, 1) := by decide +kernel
theorem dX3_verdict_38 : decode cX3_verdict 38 = .ok (.iconst 1, 1) := by decide +kernel
theorem dX3_verdict_39 : decode cX3_verdict 39 = .ok (.invokevirtual 206, 3) := by decide +kernel
theorem dX3_verdict_42 : decode cX3_verdict 42 = .ok (.lconst 0, 1) := by decide +kernel
theorem dX3_verdict_43 : decode cX3_verdict 43 = .ok (.lstore 4, 2) := by decide +kernel
theorem dX3_verdict_45 : decode cX3_verdict 45 = .ok (.iconst 0, 1) := by decide +kernel
theorem dX3_verdict_46 : decode cX3_verdict 46 = .ok (.istore 6, 2) := by decide +kernel
theorem dX3_verdict_48 : decode cX3_verdict 48 = .ok (.iload 6, 2) := by decide +kernel
theorem dX3_verdict_50 : decode cX3_verdict 50 = .ok (.bipush 64, 2) := by decide +kernel
theorem dX3_verdict_52 : decode cX3_verdict 52 = .ok (.if_icmp .ge 39, 3) := by decide +kernel
theorem dX3_verdict_55 : decode cX3_verdict 55 = .ok (.lload 4, 2) := by decide +kernel
theorem dX3_verdict_57 : decode cX3_verdict 57 = .ok (.aload_n 0, 1) := by decide +kernel
theorem dX3_verdict_58 : decode cX3_verdict 58 = .ok (.getfield 58, 3) := by decide +kernel
theorem dX3_verdict_61 : decode cX3_verdict 61 = .ok (.iload 6, 2) := by decide +kernel
theorem dX3_verdict_63 : decode cX3_verdict 63 = .ok (.iaload, 1) := by decide +kernel
theorem dX3_verdict_64 : decode cX3_verdict 64 = .ok (.iconst 1, 1) := by decide +kernel
theorem dX3_verdict_65 : decode cX3_verdict 65 = .ok (.if_icmp .ne 16, 3) := by decide +kernel
theorem dX3_verdict_68 : decode cX3_verdict 68 = .ok (.iload 6, 2) := by decide +kernel
theorem dX3_verdict_70 : decode cX3_verdict 70 = .ok (.iload_n 1, 1) := by decide +kernel
theorem dX3_verdict_71 : decode cX3_verdict 71 = .ok (.invokestatic 177, 3) := by decide +kernel
theorem dX3_verdict_74 : decode cX3_verdict 74 = .ok (.ifCond .eq 7, 3) := by decide +kernel
theorem dX3_verdict_77 : decode cX3_verdict 77 = .ok (.lconst 1, 1) := by decide +kernel
theorem dX3_verdict_78 : decode cX3_verdict 78 = .ok (.goto 4, 3) := by decide +kernel
theorem dX3_verdict_81 : decode cX3_verdict 81 = .ok (.lconst 0, 1) := by decide +kernel
theorem dX3_verdict_82 : decode cX3_verdict 82 = .ok (.ladd, 1) := by decide +kernel
theorem dX3_verdict_83 : decode cX3_verdict 83 = .ok (.lstore 4, 2) := by decide +kernel
theorem dX3_verdict_85 : decode cX3_verdict 85 = .ok (.iinc 6 1, 3) := by decide +kernel
theorem dX3_verdict_88 : decode cX3_verdict 88 = .ok (.goto (-40), 3) := by decide +kernel
theorem dX3_verdict_91 : decode cX3_verdict 91 = .ok (.lload 4, 2) := by decide +kernel
theorem dX3_verdict_93 : decode cX3_verdict 93 = .ok (.aload_n 0, 1) := by decide +kernel
theorem dX3_verdict_94 : decode cX3_verdict 94 = .ok (.getfield 58, 3) := by decide +kernel
theorem dX3_verdict_97 : decode cX3_verdict 97 = .ok (.invokestatic 199, 3) := by decide +kernel
theorem dX3_verdict_100 : decode cX3_verdict 100 = .ok (.i2l, 1) := by decide +kernel
theorem dX3_verdict_101 : decode cX3_verdict 101 = .ok (.iload_n 2, 1) := by decide +kernel
theorem dX3_verdict_102 : decode cX3_verdict 102 = .ok (.invokestatic 253, 3) := by decide +kernel
theorem dX3_verdict_105 : decode cX3_verdict 105 = .ok (.lreturn, 1) := by decide +kernel
set_option maxRecDepth 20000 in
theorem ggX3_mean_X3_isIn : GoodIn wsX3_mean wsX3_isIn := goodIn_r _ [5] (by decide +kernel) (by decide +kernel)
set_option maxRecDepth 20000 in
theorem gX3_mean_X3_isIn : GoodIn wsX3_mean (va_wsS RX3 97 yX3_isIn wsX3_isIn) := goodIn_app (goodIn_of _ (by decide +kernel)) ggX3_mean_X3_isIn
set_option maxRecDepth 20000 in
theorem ggX3_mean_X3_lowest : GoodIn wsX3_mean wsX3_lowest := goodIn_r _ [9, 10, 11, 67, 68, 69, 70, 71, 72, 73, 74, 75, 76, 77, 78, 79, 80, 81, 82, 83, 84, 85, 86, 87, 88, 89, 90, 91, 92, 93, 94, 95, 96, 97, 98, 99] (by decide +kernel) (by decide +kernel)
set_option maxRecDepth 20000 in
theorem gX3_mean_X3_lowest : GoodIn wsX3_mean (wsV RX3 249 RX3 yX3_lowest wsX3_lowest) := goodIn_app (goodIn_of _ (by decide +kernel)) ggX3_mean_X3_lowest
set_option maxRecDepth 20000 in
theorem ggX3_mean_X3_findFit : GoodIn wsX3_mean wsX3_findFit := goodIn_r _ [15, 1, 16, 17, 18, 4, 19, 20, 21, 22, 23, 24, 25, 26, 27, 28, 29, 30, 31, 32, 33, 34, 35, 36, 37, 38, 39, 40, 41, 42, 43, 44, 45, 46, 47, 48, 49, 50, 51, 52, 53, 54, 67, 68, 69, 70, 71, 72, 73, 74, 75, 76, 77, 78, 79, 80, 81, 82, 83, 84, 85, 86, 87, 88, 89, 90, 91, 92, 93, 94, 95, 96, 97, 98, 99] (by decide +kernel) (by decide +kernel)
set_option maxRecDepth 20000 in
theorem gX3_mean_X3_findFit : GoodIn wsX3_mean (wsV RX3 206 RX3 yX3_findFit wsX3_findFit) := goodIn_app (goodIn_of _ (by decide +kernel)) ggX3_mean_X3_findFit
set_option maxRecDepth 20000 in
theorem ggX3_mean_X3_bits : GoodIn wsX3_mean wsX3_bits := goodIn_r _ [57] (by decide +kernel) (by decide +kernel)
set_option maxRecDepth 20000 in
theorem gX3_mean_X3_bits : GoodIn wsX3_mean (va_wsS RX3 257 yX3_bits wsX3_bits) := goodIn_app (goodIn_of _ (by decide +kernel)) ggX3_mean_X3_bits
set_option maxRecDepth 20000 in
theorem ggX3_mean_X3_manyIn : GoodIn wsX3_mean wsX3_manyIn := goodIn_r _ [60] (by decide +kernel) (by decide +kernel)
set_option maxRecDepth 20000 in
theorem gX3_mean_X3_manyIn : GoodIn wsX3_mean (va_wsS RX3 199 yX3_manyIn wsX3_manyIn) := goodIn_app (goodIn_of _ (by decide +kernel)) ggX3_mean_X3_manyIn
set_option maxRecDepth 20000 in
theorem ggX3_mean_X3_partOf : GoodIn wsX3_mean wsX3_partOf := goodIn_r _ [63, 64, 65, 4, 66] (by decide +kernel) (by decide +kernel)
set_option maxRecDepth 20000 in
theorem gX3_mean_X3_partOf : GoodIn wsX3_mean (va_wsS RX3 253 yX3_partOf wsX3_partOf) := goodIn_app (goodIn_of _ (by decide +kernel)) ggX3_mean_X3_partOf
theorem dX3_mean_0 : decode cX3_mean 0 = .ok (.iload_n 1, 1) := by decide +kernel
theorem dX3_mean_1 : decode cX3_mean 1 = .ok (.iconst 0, 1) := by decide +kernel
theorem dX3_mean_2 : decode cX3_mean 2 = .ok (.iconst 1, 1) := by decide +kernel
theorem dX3_mean_3 : decode cX3_mean 3 = .ok (.invokestatic 97, 3) := by decide +kernel
theorem dX3_mean_6 : decode cX3_mean 6 = .ok (.ifCond .ne 10, 3) := by decide +kernel
theorem dX3_mean_9 : decode cX3_mean 9 = .ok (.aload_n 0, 1) := by decide +kernel
theorem dX3_mean_10 : decode cX3_mean 10 = .ok (.bipush (-2), 2) := by decide +kernel
theorem dX3_mean_12 : decode cX3_mean 12 = .ok (.invokevirtual 249, 3) := by decide +kernel
theorem dX3_mean_15 : decode cX3_mean 15 = .ok (.lreturn, 1) := by decide +kernel
theorem dX3_mean_16 : decode cX3_mean 16 = .ok (.aload_n 0, 1) := by decide +kernel
theorem dX3_mean_17 : decode cX3_mean 17 = .ok (.iconst 0, 1) := by decide +kernel
theorem dX3_mean_18 : decode cX3_mean 18 = .ok (.invokevirtual 206, 3) := by decide +kernel
theorem dX3_mean_21 : decode cX3_mean 21 = .ok (.lconst 0, 1) := by decide +kernel
theorem dX3_mean_22 : decode cX3_mean 22 = .ok (.lstore_n 2, 1) := by decide +kernel
theorem dX3_mean_23 : decode cX3_mean 23 = .ok (.iconst 0, 1) := by decide +kernel
theorem dX3_mean_24 : decode cX3_mean 24 = .ok (.istore 4, 2) := by decide +kernel
theorem dX3_mean_26 : decode cX3_mean 26 = .ok (.iload 4, 2) := by decide +kernel
theorem dX3_mean_28 : decode cX3_mean 28 = .ok (.bipush 64, 2) := by decide +kernel
theorem dX3_mean_30 : decode cX3_mean 30 = .ok (.if_icmp .ge 33, 3) := by decide +kernel
theorem dX3_mean_33 : decode cX3_mean 33 = .ok (.lload_n 2, 1) := by decide +kernel
theorem dX3_mean_34 : decode cX3_mean 34 = .ok (.aload_n 0, 1) := by decide +kernel
theorem dX3_mean_35 : decode cX3_mean 35 = .ok (.getfield 58, 3) := by decide +kernel
theorem dX3_mean_38 : decode cX3_mean 38 = .ok (.iload 4, 2) := by decide +kernel
theorem dX3_mean_40 : decode cX3_mean 40 = .ok (.iaload, 1) := by decide +kernel
theorem dX3_mean_41 : decode cX3_mean 41 = .ok (.iconst 1, 1) := by decide +kernel
theorem dX3_mean_42 : decode cX3_mean 42 = .ok (.if_icmp .ne 12, 3) := by decide +kernel
theorem dX3_mean_45 : decode cX3_mean 45 = .ok (.iload 4, 2) := by decide +kernel
theorem dX3_mean_47 : decode cX3_mean 47 = .ok (.invokestatic 257, 3) := by decide +kernel
theorem dX3_mean_50 : decode cX3_mean 50 = .ok (.i2l, 1) := by decide +kernel
theorem dX3_mean_51 : decode cX3_mean 51 = .ok (.goto 4, 3) := by decide +kernel
theorem dX3_mean_54 : decode cX3_mean 54 = .ok (.lconst 0, 1) := by decide +kernel
theorem dX3_mean_55 : decode cX3_mean 55 = .ok (.ladd, 1) := by decide +kernel
theorem dX3_mean_56 : decode cX3_mean 56 = .ok (.lstore_n 2, 1) := by decide +kernel
theorem dX3_mean_57 : decode cX3_mean 57 = .ok (.iinc 4 1, 3) := by decide +kernel
theorem dX3_mean_60 : decode cX3_mean 60 = .ok (.goto (-34), 3) := by decide +kernel
theorem dX3_mean_63 : decode cX3_mean 63 = .ok (.lload_n 2, 1) := by decide +kernel
theorem dX3_mean_64 : decode cX3_mean 64 = .ok (.aload_n 0, 1) := by decide +kernel
theorem dX3_mean_65 : decode cX3_mean 65 = .ok (.getfield 58, 3) := by decide +kernel
theorem dX3_mean_68 : decode cX3_mean 68 = .ok (.invokestatic 199, 3) := by decide +kernel
theorem dX3_mean_71 : decode cX3_mean 71 = .ok (.i2l, 1) := by decide +kernel
theorem dX3_mean_72 : decode cX3_mean 72 = .ok (.iload_n 1, 1) := by decide +kernel
theorem dX3_mean_73 : decode cX3_mean 73 = .ok (.invokestatic 253, 3) := by decide +kernel
theorem dX3_mean_76 : decode cX3_mean 76 = .ok (.lreturn, 1) := by decide +kernel
set_option maxRecDepth 20000 in
theorem ggX3_isHidden_X3_answerOf : GoodIn wsX3_isHidden wsX3_answerOf := goodIn_r _ [8, 9, 10, 11, 12, 13, 14, 7, 15, 16, 17, 18, 19, 20, 21, 22, 23, 24, 25, 26, 27, 28, 29, 30, 31, 32, 33, 34, 35, 36, 37, 38, 39, 40, 41, 42, 43, 44, 45, 46, 47, 48, 49, 50, 51, 52, 53, 54, 55, 56, 57, 58, 59] (by decide +kernel) (by decide +kernel)
set_option maxRecDepth 20000 in
theorem gX3_isHidden_X3_answerOf : GoodIn wsX3_isHidden (wsV RX3 186 RX3 yX3_answerOf wsX3_answerOf) := goodIn_app (goodIn_of _ (by decide +kernel)) ggX3_isHidden_X3_answerOf
theorem dX3_isHidden_0 : decode cX3_isHidden 0 = .ok (.iconst 0, 1) := by decide +kernel
theorem dX3_isHidden_1 : decode cX3_isHidden 1 = .ok (.istore_n 2, 1) := by decide +kernel
theorem dX3_isHidden_2 : decode cX3_isHidden 2 = .ok (.iload_n 2, 1) := by decide +kernel
theorem dX3_isHidden_3 : decode cX3_isHidden 3 = .ok (.aload_n 0, 1) := by decide +kernel
theorem dX3_isHidden_4 : decode cX3_isHidden 4 = .ok (.getfield 76, 3) := by decide +kernel
theorem dX3_isHidden_7 : decode cX3_isHidden 7 = .ok (.if_icmp .ge 31, 3) := by decide +kernel
theorem dX3_isHidden_10 : decode cX3_isHidden 10 = .ok (.aload_n 0, 1) := by decide +kernel
theorem dX3_isHidden_11 : decode cX3_isHidden 11 = .ok (.iload_n 2, 1) := by decide +kernel
theorem dX3_isHidden_12 : decode cX3_isHidden 12 = .ok (.iload_n 1, 1) := by decide +kernel
theorem dX3_isHidden_13 : decode cX3_isHidden 13 = .ok (.aload_n 0, 1) := by decide +kernel
theorem dX3_isHidden_14 : decode cX3_isHidden 14 = .ok (.getfield 134, 3) := by decide +kernel
theorem dX3_isHidden_17 : decode cX3_isHidden 17 = .ok (.aload_n 0, 1) := by decide +kernel
theorem dX3_isHidden_18 : decode cX3_isHidden 18 = .ok (.getfield 127, 3) := by decide +kernel
theorem dX3_isHidden_21 : decode cX3_isHidden 21 = .ok (.iconst 1, 1) := by decide +kernel
theorem dX3_isHidden_22 : decode cX3_isHidden 22 = .ok (.iadd, 1) := by decide +kernel
theorem dX3_isHidden_23 : decode cX3_isHidden 23 = .ok (.invokevirtual 186, 3) := by decide +kernel
theorem dX3_isHidden_26 : decode cX3_isHidden 26 = .ok (.iconst 2, 1) := by decide +kernel
theorem dX3_isHidden_27 : decode cX3_isHidden 27 = .ok (.if_icmp .eq 5, 3) := by decide +kernel
theorem dX3_isHidden_30 : decode cX3_isHidden 30 = .ok (.iconst 0, 1) := by decide +kernel
theorem dX3_isHidden_31 : decode cX3_isHidden 31 = .ok (.ireturn, 1) := by decide +kernel
theorem dX3_isHidden_32 : decode cX3_isHidden 32 = .ok (.iinc 2 1, 3) := by decide +kernel
theorem dX3_isHidden_35 : decode cX3_isHidden 35 = .ok (.goto (-33), 3) := by decide +kernel
theorem dX3_isHidden_38 : decode cX3_isHidden 38 = .ok (.iconst 1, 1) := by decide +kernel
theorem dX3_isHidden_39 : decode cX3_isHidden 39 = .ok (.ireturn, 1) := by decide +kernel
set_option maxRecDepth 20000 in
theorem ggX3_hidden_X3_isHidden : GoodIn wsX3_hidden wsX3_isHidden := goodIn_r _ [6, 7, 8, 9, 10, 11, 12, 5, 13, 14, 15, 1, 16, 17, 18, 19, 20, 21, 22, 23, 24, 25, 26, 27, 28, 29, 30, 31, 32, 33, 34, 35, 36, 37, 38, 39, 40, 41, 42, 43, 44, 45, 46, 47, 48, 49, 50, 51, 52, 53, 54, 55, 56, 57, 58, 59, 60, 61, 62, 63] (by decide +kernel) (by decide +kernel)
set_option maxRecDepth 20000 in
theorem gX3_hidden_X3_isHidden : GoodIn wsX3_hidden (wsV RX3 260 RX3 yX3_isHidden wsX3_isHidden) := goodIn_app (goodIn_of _ (by decide +kernel)) ggX3_hidden_X3_isHidden
theorem dX3_hidden_0 : decode cX3_hidden 0 = .ok (.iconst 0, 1) := by decide +kernel
theorem dX3_hidden_1 : decode cX3_hidden 1 = .ok (.istore_n 1, 1) := by decide +kernel
theorem dX3_hidden_2 : decode cX3_hidden 2 = .ok (.iconst 0, 1) := by decide +kernel
theorem dX3_hidden_3 : decode cX3_hidden 3 = .ok (.istore_n 2, 1) := by decide +kernel
theorem dX3_hidden_4 : decode cX3_hidden 4 = .ok (.iload_n 2, 1) := by decide +kernel
theorem dX3_hidden_5 : decode cX3_hidden 5 = .ok (.aload_n 0, 1) := by decide +kernel
theorem dX3_hidden_6 : decode cX3_hidden 6 = .ok (.getfield 70, 3) := by decide +kernel
theorem dX3_hidden_9 : decode cX3_hidden 9 = .ok (.if_icmp .ge 27, 3) := by decide +kernel
theorem dX3_hidden_12 : decode cX3_hidden 12 = .ok (.iload_n 1, 1) := by decide +kernel
theorem dX3_hidden_13 : decode cX3_hidden 13 = .ok (.aload_n 0, 1) := by decide +kernel
theorem dX3_hidden_14 : decode cX3_hidden 14 = .ok (.iload_n 2, 1) := by decide +kernel
theorem dX3_hidden_15 : decode cX3_hidden 15 = .ok (.invokevirtual 260, 3) := by decide +kernel
theorem dX3_hidden_18 : decode cX3_hidden 18 = .ok (.ifCond .eq 9, 3) := by decide +kernel
theorem dX3_hidden_21 : decode cX3_hidden 21 = .ok (.iconst 1, 1) := by decide +kernel
theorem dX3_hidden_22 : decode cX3_hidden 22 = .ok (.iload_n 2, 1) := by decide +kernel
theorem dX3_hidden_23 : decode cX3_hidden 23 = .ok (.ishl, 1) := by decide +kernel
theorem dX3_hidden_24 : decode cX3_hidden 24 = .ok (.goto 4, 3) := by decide +kernel
theorem dX3_hidden_27 : decode cX3_hidden 27 = .ok (.iconst 0, 1) := by decide +kernel
theorem dX3_hidden_28 : decode cX3_hidden 28 = .ok (.ior, 1) := by decide +kernel
theorem dX3_hidden_29 : decode cX3_hidden 29 = .ok (.istore_n 1, 1) := by decide +kernel
theorem dX3_hidden_30 : decode cX3_hidden 30 = .ok (.iinc 2 1, 3) := by decide +kernel
theorem dX3_hidden_33 : decode cX3_hidden 33 = .ok (.goto (-29), 3) := by decide +kernel
theorem dX3_hidden_36 : decode cX3_hidden 36 = .ok (.iload_n 1, 1) := by decide +kernel
theorem dX3_hidden_37 : decode cX3_hidden 37 = .ok (.ireturn, 1) := by decide +kernel
set_option maxRecDepth 20000 in
theorem ggX3_areSame_X3_isSo : GoodIn wsX3_areSame wsX3_isSo := goodIn_r _ [5, 6, 7, 8, 9, 10, 4, 11, 12, 13, 14, 15, 16, 17, 18, 19, 20, 21, 22, 23, 24, 25, 26, 27, 28, 29, 30, 31, 32, 33, 34, 35, 36, 37, 38, 39, 40, 41, 42, 43, 44] (by decide +kernel) (by decide +kernel)
set_option maxRecDepth 20000 in
theorem gX3_areSame_X3_isSo : GoodIn wsX3_areSame (wsV RX3 180 RX3 yX3_isSo wsX3_isSo) := goodIn_app (goodIn_of _ (by decide +kernel)) ggX3_areSame_X3_isSo
theorem dX3_areSame_0 : decode cX3_areSame 0 = .ok (.iconst 0, 1) := by decide +kernel
theorem dX3_areSame_1 : decode cX3_areSame 1 = .ok (.istore_n 3, 1) := by decide +kernel
theorem dX3_areSame_2 : decode cX3_areSame 2 = .ok (.iload_n 3, 1) := by decide +kernel
theorem dX3_areSame_3 : decode cX3_areSame 3 = .ok (.bipush 64, 2) := by decide +kernel
theorem dX3_areSame_5 : decode cX3_areSame 5 = .ok (.if_icmp .ge 26, 3) := by decide +kernel
theorem dX3_areSame_8 : decode cX3_areSame 8 = .ok (.aload_n 0, 1) := by decide +kernel
theorem dX3_areSame_9 : decode cX3_areSame 9 = .ok (.iload_n 1, 1) := by decide +kernel
theorem dX3_areSame_10 : decode cX3_areSame 10 = .ok (.iload_n 3, 1) := by decide +kernel
theorem dX3_areSame_11 : decode cX3_areSame 11 = .ok (.invokevirtual 180, 3) := by decide +kernel
theorem dX3_areSame_14 : decode cX3_areSame 14 = .ok (.aload_n 0, 1) := by decide +kernel
theorem dX3_areSame_15 : decode cX3_areSame 15 = .ok (.iload_n 2, 1) := by decide +kernel
theorem dX3_areSame_16 : decode cX3_areSame 16 = .ok (.iload_n 3, 1) := by decide +kernel
theorem dX3_areSame_17 : decode cX3_areSame 17 = .ok (.invokevirtual 180, 3) := by decide +kernel
theorem dX3_areSame_20 : decode cX3_areSame 20 = .ok (.if_icmp .eq 5, 3) := by decide +kernel
theorem dX3_areSame_23 : decode cX3_areSame 23 = .ok (.iconst 0, 1) := by decide +kernel
theorem dX3_areSame_24 : decode cX3_areSame 24 = .ok (.ireturn, 1) := by decide +kernel
theorem dX3_areSame_25 : decode cX3_areSame 25 = .ok (.iinc 3 1, 3) := by decide +kernel
theorem dX3_areSame_28 : decode cX3_areSame 28 = .ok (.goto (-26), 3) := by decide +kernel
theorem dX3_areSame_31 : decode cX3_areSame 31 = .ok (.iconst 1, 1) := by decide +kernel
theorem dX3_areSame_32 : decode cX3_areSame 32 = .ok (.ireturn, 1) := by decide +kernel
set_option maxRecDepth 20000 in
theorem ggX3_same_X3_isIn : GoodIn wsX3_same wsX3_isIn := goodIn_r _ [5] (by decide +kernel) (by decide +kernel)
set_option maxRecDepth 20000 in
theorem gX3_same_X3_isIn : GoodIn wsX3_same (va_wsS RX3 97 yX3_isIn wsX3_isIn) := goodIn_app (goodIn_of _ (by decide +kernel)) ggX3_same_X3_isIn
set_option maxRecDepth 20000 in
theorem ggX3_same_X3_no : GoodIn wsX3_same wsX3_no := goodIn_r _ [9, 10, 25, 26, 27, 28, 29, 30, 31, 32, 33, 34, 35, 36, 37, 38, 39, 40, 41, 42, 43, 44, 45, 46, 47, 48, 49, 50, 51, 52, 53, 54, 55, 56, 57] (by decide +kernel) (by decide +kernel)
set_option maxRecDepth 20000 in
theorem gX3_same_X3_no : GoodIn wsX3_same (wsV RX3 86 RX3 yX3_no wsX3_no) := goodIn_app (goodIn_of _ (by decide +kernel)) ggX3_same_X3_no
set_option maxRecDepth 20000 in
theorem ggX3_same_X3_areSame : GoodIn wsX3_same wsX3_areSame := goodIn_r _ [14, 15, 16, 17, 4, 18, 19, 20, 21, 22, 23, 24, 25, 26, 27, 28, 29, 30, 31, 32, 33, 34, 35, 36, 37, 38, 39, 40, 41, 42, 43, 44, 45, 46, 47, 48, 49, 50, 51, 52, 53, 54, 55, 56, 57] (by decide +kernel) (by decide +kernel)
set_option maxRecDepth 20000 in
theorem gX3_same_X3_areSame : GoodIn wsX3_same (wsV RX3 263 RX3 yX3_areSame wsX3_areSame) := goodIn_app (goodIn_of _ (by decide +kernel)) ggX3_same_X3_areSame
theorem dX3_same_0 : decode cX3_same 0 = .ok (.iload_n 1, 1) := by decide +kernel
theorem dX3_same_1 : decode cX3_same 1 = .ok (.iconst 0, 1) := by decide +kernel
theorem dX3_same_2 : decode cX3_same 2 = .ok (.iconst 1, 1) := by decide +kernel
theorem dX3_same_3 : decode cX3_same 3 = .ok (.invokestatic 97, 3) := by decide +kernel
theorem dX3_same_6 : decode cX3_same 6 = .ok (.ifCond .ne 10, 3) := by decide +kernel
theorem dX3_same_9 : decode cX3_same 9 = .ok (.aload_n 0, 1) := by decide +kernel
theorem dX3_same_10 : decode cX3_same 10 = .ok (.bipush (-2), 2) := by decide +kernel
theorem dX3_same_12 : decode cX3_same 12 = .ok (.invokevirtual 86, 3) := by decide +kernel
theorem dX3_same_15 : decode cX3_same 15 = .ok (.ireturn, 1) := by decide +kernel
theorem dX3_same_16 : decode cX3_same 16 = .ok (.iconst 0, 1) := by decide +kernel
theorem dX3_same_17 : decode cX3_same 17 = .ok (.istore_n 2, 1) := by decide +kernel
theorem dX3_same_18 : decode cX3_same 18 = .ok (.bipush (-9), 2) := by decide +kernel
theorem dX3_same_20 : decode cX3_same 20 = .ok (.istore_n 3, 1) := by decide +kernel
theorem dX3_same_21 : decode cX3_same 21 = .ok (.aload_n 0, 1) := by decide +kernel
theorem dX3_same_22 : decode cX3_same 22 = .ok (.getfield 70, 3) := by decide +kernel
theorem dX3_same_25 : decode cX3_same 25 = .ok (.iconst 1, 1) := by decide +kernel
theorem dX3_same_26 : decode cX3_same 26 = .ok (.isub, 1) := by decide +kernel
theorem dX3_same_27 : decode cX3_same 27 = .ok (.istore 4, 2) := by decide +kernel
theorem dX3_same_29 : decode cX3_same 29 = .ok (.iload 4, 2) := by decide +kernel
theorem dX3_same_31 : decode cX3_same 31 = .ok (.ifCond .lt 56, 3) := by decide +kernel
theorem dX3_same_34 : decode cX3_same 34 = .ok (.aload_n 0, 1) := by decide +kernel
theorem dX3_same_35 : decode cX3_same 35 = .ok (.getfield 70, 3) := by decide +kernel
theorem dX3_same_38 : decode cX3_same 38 = .ok (.iconst 1, 1) := by decide +kernel
theorem dX3_same_39 : decode cX3_same 39 = .ok (.isub, 1) := by decide +kernel
theorem dX3_same_40 : decode cX3_same 40 = .ok (.istore 5, 2) := by decide +kernel
theorem dX3_same_42 : decode cX3_same 42 = .ok (.iload 5, 2) := by decide +kernel
theorem dX3_same_44 : decode cX3_same 44 = .ok (.iload 4, 2) := by decide +kernel
theorem dX3_same_46 : decode cX3_same 46 = .ok (.if_icmp .le 35, 3) := by decide +kernel
theorem dX3_same_49 : decode cX3_same 49 = .ok (.aload_n 0, 1) := by decide +kernel
theorem dX3_same_50 : decode cX3_same 50 = .ok (.iload 4, 2) := by decide +kernel
theorem dX3_same_52 : decode cX3_same 52 = .ok (.iload 5, 2) := by decide +kernel
theorem dX3_same_54 : decode cX3_same 54 = .ok (.invokevirtual 263, 3) := by decide +kernel
theorem dX3_same_57 : decode cX3_same 57 = .ok (.ifCond .ne 6, 3) := by decide +kernel
theorem dX3_same_60 : decode cX3_same 60 = .ok (.goto 15, 3) := by decide +kernel
theorem dX3_same_63 : decode cX3_same 63 = .ok (.iinc 2 1, 3) := by decide +kernel
theorem dX3_same_66 : decode cX3_same 66 = .ok (.bipush 10, 2) := by decide +kernel
theorem dX3_same_68 : decode cX3_same 68 = .ok (.iload 4, 2) := by decide +kernel
theorem dX3_same_70 : decode cX3_same 70 = .ok (.imul, 1) := by decide +kernel
theorem dX3_same_71 : decode cX3_same 71 = .ok (.iload 5, 2) := by decide +kernel
theorem dX3_same_73 : decode cX3_same 73 = .ok (.iadd, 1) := by decide +kernel
theorem dX3_same_74 : decode cX3_same 74 = .ok (.istore_n 3, 1) := by decide +kernel
theorem dX3_same_75 : decode cX3_same 75 = .ok (.iinc 5 (-1), 3) := by decide +kernel
theorem dX3_same_78 : decode cX3_same 78 = .ok (.goto (-36), 3) := by decide +kernel
theorem dX3_same_81 : decode cX3_same 81 = .ok (.iinc 4 (-1), 3) := by decide +kernel
theorem dX3_same_84 : decode cX3_same 84 = .ok (.goto (-55), 3) := by decide +kernel
theorem dX3_same_87 : decode cX3_same 87 = .ok (.iload_n 1, 1) := by decide +kernel
theorem dX3_same_88 : decode cX3_same 88 = .ok (.ifCond .ne 7, 3) := by decide +kernel
theorem dX3_same_91 : decode cX3_same 91 = .ok (.iload_n 2, 1) := by decide +kernel
theorem dX3_same_92 : decode cX3_same 92 = .ok (.goto 4, 3) := by decide +kernel
theorem dX3_same_95 : decode cX3_same 95 = .ok (.iload_n 3, 1) := by decide +kernel
theorem dX3_same_96 : decode cX3_same 96 = .ok (.ireturn, 1) := by decide +kernel
set_option maxRecDepth 20000 in
theorem ggX3_implies_X3_isQuestion : GoodIn wsX3_implies wsX3_isQuestion := goodIn_r _ [6, 7, 55, 56, 57, 58, 59, 60, 61, 62, 63, 64, 65, 66, 67, 68, 69, 70, 71, 72, 73, 74, 75, 76, 77, 78, 79, 80, 81, 82, 83, 84, 85, 86, 87] (by decide +kernel) (by decide +kernel)
set_option maxRecDepth 20000 in
theorem gX3_implies_X3_isQuestion : GoodIn wsX3_implies (wsV RX3 124 RX3 yX3_isQuestion wsX3_isQuestion) := goodIn_app (goodIn_of _ (by decide +kernel)) ggX3_implies_X3_isQuestion
set_option maxRecDepth 20000 in
theorem ggX3_implies_X3_no : GoodIn wsX3_implies wsX3_no := goodIn_r _ [11, 12, 55, 56, 57, 58, 59, 60, 61, 62, 63, 64, 65, 66, 67, 68, 69, 70, 71, 72, 73, 74, 75, 76, 77, 78, 79, 80, 81, 82, 83, 84, 85, 86, 87] (by decide +kernel) (by decide +kernel)
set_option maxRecDepth 20000 in
theorem gX3_implies_X3_no : GoodIn wsX3_implies (wsV RX3 86 RX3 yX3_no wsX3_no) := goodIn_app (goodIn_of _ (by decide +kernel)) ggX3_implies_X3_no
set_option maxRecDepth 20000 in
theorem ggX3_implies_X3_findFit : GoodIn wsX3_implies wsX3_findFit := goodIn_r _ [16, 1, 17, 18, 19, 5, 20, 21, 22, 23, 24, 25, 7, 26, 27, 28, 29, 30, 31, 32, 33, 34, 35, 36, 37, 38, 39, 40, 41, 42, 43, 44, 45, 46, 47, 48, 49, 50, 51, 52, 53, 54, 55, 56, 57, 58, 59, 60, 61, 62, 63, 64, 65, 66, 67, 68, 69, 70, 71, 72, 73, 74, 75, 76, 77, 78, 79, 80, 81, 82, 83, 84, 85, 86, 87] (by decide +kernel) (by decide +kernel)
set_option maxRecDepth 20000 in
theorem gX3_implies_X3_findFit : GoodIn wsX3_implies (wsV RX3 206 RX3 yX3_findFit wsX3_findFit) := goodIn_app (goodIn_of _ (by decide +kernel)) ggX3_implies_X3_findFit
set_option maxRecDepth 20000 in
theorem ggX3_implies_X3_isSo : GoodIn wsX3_implies wsX3_isSo := goodIn_r _ [49, 40, 42, 41, 43, 44, 5, 45, 55, 56, 57, 58, 59, 60, 61, 62, 63, 64, 65, 66, 67, 68, 69, 70, 71, 72, 73, 74, 75, 76, 77, 78, 79, 80, 81, 82, 83, 84, 85, 86, 87] (by decide +kernel) (by decide +kernel)
set_option maxRecDepth 20000 in
theorem gX3_implies_X3_isSo : GoodIn wsX3_implies (wsV RX3 180 RX3 yX3_isSo wsX3_isSo) := goodIn_app (goodIn_of _ (by decide +kernel)) ggX3_implies_X3_isSo
theorem dX3_implies_0 : decode cX3_implies 0 = .ok (.aload_n 0, 1) := by decide +kernel
theorem dX3_implies_1 : decode cX3_implies 1 = .ok (.iload_n 1, 1) := by decide +kernel
theorem dX3_implies_2 : decode cX3_implies 2 = .ok (.invokevirtual 124, 3) := by decide +kernel
theorem dX3_implies_5 : decode cX3_implies 5 = .ok (.ifCond .eq 11, 3) := by decide +kernel
theorem dX3_implies_8 : decode cX3_implies 8 = .ok (.aload_n 0, 1) := by decide +kernel
theorem dX3_implies_9 : decode cX3_implies 9 = .ok (.iload_n 2, 1) := by decide +kernel
theorem dX3_implies_10 : decode cX3_implies 10 = .ok (.invokevirtual 124, 3) := by decide +kernel
theorem dX3_implies_13 : decode cX3_implies 13 = .ok (.ifCond .ne 9, 3) := by decide +kernel
theorem dX3_implies_16 : decode cX3_implies 16 = .ok (.aload_n 0, 1) := by decide +kernel
theorem dX3_implies_17 : decode cX3_implies 17 = .ok (.iconst (-1), 1) := by decide +kernel
theorem dX3_implies_18 : decode cX3_implies 18 = .ok (.invokevirtual 86, 3) := by decide +kernel
theorem dX3_implies_21 : decode cX3_implies 21 = .ok (.ireturn, 1) := by decide +kernel
theorem dX3_implies_22 : decode cX3_implies 22 = .ok (.aload_n 0, 1) := by decide +kernel
theorem dX3_implies_23 : decode cX3_implies 23 = .ok (.iconst 0, 1) := by decide +kernel
theorem dX3_implies_24 : decode cX3_implies 24 = .ok (.invokevirtual 206, 3) := by decide +kernel
theorem dX3_implies_27 : decode cX3_implies 27 = .ok (.iconst 0, 1) := by decide +kernel
theorem dX3_implies_28 : decode cX3_implies 28 = .ok (.istore_n 3, 1) := by decide +kernel
theorem dX3_implies_29 : decode cX3_implies 29 = .ok (.iload_n 3, 1) := by decide +kernel
theorem dX3_implies_30 : decode cX3_implies 30 = .ok (.bipush 64, 2) := by decide +kernel
theorem dX3_implies_32 : decode cX3_implies 32 = .ok (.if_icmp .ge 39, 3) := by decide +kernel
theorem dX3_implies_35 : decode cX3_implies 35 = .ok (.aload_n 0, 1) := by decide +kernel
theorem dX3_implies_36 : decode cX3_implies 36 = .ok (.getfield 58, 3) := by decide +kernel
theorem dX3_implies_39 : decode cX3_implies 39 = .ok (.iload_n 3, 1) := by decide +kernel
theorem dX3_implies_40 : decode cX3_implies 40 = .ok (.iaload, 1) := by decide +kernel
theorem dX3_implies_41 : decode cX3_implies 41 = .ok (.iconst 1, 1) := by decide +kernel
theorem dX3_implies_42 : decode cX3_implies 42 = .ok (.if_icmp .ne 23, 3) := by decide +kernel
theorem dX3_implies_45 : decode cX3_implies 45 = .ok (.aload_n 0, 1) := by decide +kernel
theorem dX3_implies_46 : decode cX3_implies 46 = .ok (.iload_n 1, 1) := by decide +kernel
theorem dX3_implies_47 : decode cX3_implies 47 = .ok (.iload_n 3, 1) := by decide +kernel
theorem dX3_implies_48 : decode cX3_implies 48 = .ok (.invokevirtual 180, 3) := by decide +kernel
theorem dX3_implies_51 : decode cX3_implies 51 = .ok (.ifCond .eq 14, 3) := by decide +kernel
theorem dX3_implies_54 : decode cX3_implies 54 = .ok (.aload_n 0, 1) := by decide +kernel
theorem dX3_implies_55 : decode cX3_implies 55 = .ok (.iload_n 2, 1) := by decide +kernel
theorem dX3_implies_56 : decode cX3_implies 56 = .ok (.iload_n 3, 1) := by decide +kernel
theorem dX3_implies_57 : decode cX3_implies 57 = .ok (.invokevirtual 180, 3) := by decide +kernel
theorem dX3_implies_60 : decode cX3_implies 60 = .ok (.ifCond .ne 5, 3) := by decide +kernel
theorem dX3_implies_63 : decode cX3_implies 63 = .ok (.iconst 0, 1) := by decide +kernel
theorem dX3_implies_64 : decode cX3_implies 64 = .ok (.ireturn, 1) := by decide +kernel
theorem dX3_implies_65 : decode cX3_implies 65 = .ok (.iinc 3 1, 3) := by decide +kernel
theorem dX3_implies_68 : decode cX3_implies 68 = .ok (.goto (-39), 3) := by decide +kernel
theorem dX3_implies_71 : decode cX3_implies 71 = .ok (.iconst 1, 1) := by decide +kernel
theorem dX3_implies_72 : decode cX3_implies 72 = .ok (.ireturn, 1) := by decide +kernel
set_option maxRecDepth 20000 in
theorem ggX3_two_X3_isWitness : GoodIn wsX3_two wsX3_isWitness := goodIn_r _ [9, 10, 75, 76, 77, 78, 79, 80, 81, 82, 83, 84, 85, 86, 87, 88, 89, 90, 91, 92, 93, 94, 95, 96, 97, 98, 99, 100, 101, 102, 103, 104, 105, 106, 107] (by decide +kernel) (by decide +kernel)
set_option maxRecDepth 20000 in
theorem gX3_two_X3_isWitness : GoodIn wsX3_two (wsV RX3 121 RX3 yX3_isWitness wsX3_isWitness) := goodIn_app (goodIn_of _ (by decide +kernel)) ggX3_two_X3_isWitness
set_option maxRecDepth 20000 in
theorem ggX3_two_X3_isQuestion : GoodIn wsX3_two wsX3_isQuestion := goodIn_r _ [14, 1, 75, 76, 77, 78, 79, 80, 81, 82, 83, 84, 85, 86, 87, 88, 89, 90, 91, 92, 93, 94, 95, 96, 97, 98, 99, 100, 101, 102, 103, 104, 105, 106, 107] (by decide +kernel) (by decide +kernel)
set_option maxRecDepth 20000 in
theorem gX3_two_X3_isQuestion : GoodIn wsX3_two (wsV RX3 124 RX3 yX3_isQuestion wsX3_isQuestion) := goodIn_app (goodIn_of _ (by decide +kernel)) ggX3_two_X3_isQuestion
set_option maxRecDepth 20000 in
theorem ggX3_two_X3_no : GoodIn wsX3_two wsX3_no := goodIn_r _ [18, 19, 75, 76, 77, 78, 79, 80, 81, 82, 83, 84, 85, 86, 87, 88, 89, 90, 91, 92, 93, 94, 95, 96, 97, 98, 99, 100, 101, 102, 103, 104, 105, 106, 107] (by decide +kernel) (by decide +kernel)
set_option maxRecDepth 20000 in
theorem gX3_two_X3_no : GoodIn wsX3_two (wsV RX3 86 RX3 yX3_no wsX3_no) := goodIn_app (goodIn_of _ (by decide +kernel)) ggX3_two_X3_no
set_option maxRecDepth 20000 in
theorem ggX3_two_X3_findFit : GoodIn wsX3_two wsX3_findFit := goodIn_r _ [23, 24, 25, 26, 27, 8, 28, 29, 30, 31, 32, 33, 1, 34, 35, 36, 37, 38, 39, 40, 41, 42, 43, 44, 45, 46, 47, 48, 49, 50, 51, 52, 53, 54, 55, 56, 57, 58, 59, 60, 61, 62, 75, 76, 77, 78, 79, 80, 81, 82, 83, 84, 85, 86, 87, 88, 89, 90, 91, 92, 93, 94, 95, 96, 97, 98, 99, 100, 101, 102, 103, 104, 105, 106, 107] (by decide +kernel) (by decide +kernel)
set_option maxRecDepth 20000 in
theorem gX3_two_X3_findFit : GoodIn wsX3_two (wsV RX3 206 RX3 yX3_findFit wsX3_findFit) := goodIn_app (goodIn_of _ (by decide +kernel)) ggX3_two_X3_findFit
set_option maxRecDepth 20000 in
theorem ggX3_two_X3_startLeft : GoodIn wsX3_two wsX3_startLeft := goodIn_r _ [66, 4, 24, 75, 76, 77, 78, 79, 80, 81, 82, 83, 84, 85, 86, 87, 88, 89, 90, 91, 92, 93, 94, 95, 96, 97, 98, 99, 100, 101, 102, 103, 104, 105, 106, 107] (by decide +kernel) (by decide +kernel)
set_option maxRecDepth 20000 in
theorem gX3_two_X3_startLeft : GoodIn wsX3_two (wsV RX3 219 RX3 yX3_startLeft wsX3_startLeft) := goodIn_app (goodIn_of _ (by decide +kernel)) ggX3_two_X3_startLeft
set_option maxRecDepth 20000 in
theorem ggX3_two_X3_asksLeft : GoodIn wsX3_two wsX3_asksLeft := goodIn_r _ [70, 71, 4, 37, 38, 39, 8, 40, 41, 42, 1, 43, 44, 45, 46, 47, 48, 49, 50, 51, 52, 53, 54, 55, 56, 57, 75, 76, 77, 78, 79, 80, 81, 82, 83, 84, 85, 86, 87, 88, 89, 90, 91, 92, 93, 94, 95, 96, 97, 98, 99, 100, 101, 102, 103, 104, 105, 106, 107] (by decide +kernel) (by decide +kernel)
set_option maxRecDepth 20000 in
theorem gX3_two_X3_asksLeft : GoodIn wsX3_two (wsV RX3 225 RX3 yX3_asksLeft wsX3_asksLeft) := goodIn_app (goodIn_of _ (by decide +kernel)) ggX3_two_X3_asksLeft
set_option maxRecDepth 20000 in
theorem ggX3_two_X3_manyIn : GoodIn wsX3_two wsX3_manyIn := goodIn_r _ [74] (by decide +kernel) (by decide +kernel)
set_option maxRecDepth 20000 in
theorem gX3_two_X3_manyIn : GoodIn wsX3_two (va_wsS RX3 199 yX3_manyIn wsX3_manyIn) := goodIn_app (goodIn_of _ (by decide +kernel)) ggX3_two_X3_manyIn
theorem dX3_two_0 : decode cX3_two 0 = .ok (.aload_n 0, 1) := by decide +kernel
theorem dX3_two_1 : decode cX3_two 1 = .ok (.iload_n 1, 1) := by decide +kernel
theorem dX3_two_2 : decode cX3_two 2 = .ok (.invokevirtual 121, 3) := by decide +kernel
theorem dX3_two_5 : decode cX3_two 5 = .ok (.ifCond .eq 19, 3) := by decide +kernel
theorem dX3_two_8 : decode cX3_two 8 = .ok (.aload_n 0, 1) := by decide +kernel
theorem dX3_two_9 : decode cX3_two 9 = .ok (.iload_n 2, 1) := by decide +kernel
theorem dX3_two_10 : decode cX3_two 10 = .ok (.invokevirtual 124, 3) := by decide +kernel
theorem dX3_two_13 : decode cX3_two 13 = .ok (.ifCond .eq 11, 3) := by decide +kernel
theorem dX3_two_16 : decode cX3_two 16 = .ok (.aload_n 0, 1) := by decide +kernel
theorem dX3_two_17 : decode cX3_two 17 = .ok (.iload_n 3, 1) := by decide +kernel
theorem dX3_two_18 : decode cX3_two 18 = .ok (.invokevirtual 124, 3) := by decide +kernel
theorem dX3_two_21 : decode cX3_two 21 = .ok (.ifCond .ne 9, 3) := by decide +kernel
theorem dX3_two_24 : decode cX3_two 24 = .ok (.aload_n 0, 1) := by decide +kernel
theorem dX3_two_25 : decode cX3_two 25 = .ok (.iconst (-1), 1) := by decide +kernel
theorem dX3_two_26 : decode cX3_two 26 = .ok (.invokevirtual 86, 3) := by decide +kernel
theorem dX3_two_29 : decode cX3_two 29 = .ok (.ireturn, 1) := by decide +kernel
theorem dX3_two_30 : decode cX3_two 30 = .ok (.aload_n 0, 1) := by decide +kernel
theorem dX3_two_31 : decode cX3_two 31 = .ok (.iconst 0, 1) := by decide +kernel
theorem dX3_two_32 : decode cX3_two 32 = .ok (.invokevirtual 206, 3) := by decide +kernel
theorem dX3_two_35 : decode cX3_two 35 = .ok (.iconst 0, 1) := by decide +kernel
theorem dX3_two_36 : decode cX3_two 36 = .ok (.istore 4, 2) := by decide +kernel
theorem dX3_two_38 : decode cX3_two 38 = .ok (.iload 4, 2) := by decide +kernel
theorem dX3_two_40 : decode cX3_two 40 = .ok (.iconst 4, 1) := by decide +kernel
theorem dX3_two_41 : decode cX3_two 41 = .ok (.if_icmp .ge 71, 3) := by decide +kernel
theorem dX3_two_44 : decode cX3_two 44 = .ok (.aload_n 0, 1) := by decide +kernel
theorem dX3_two_45 : decode cX3_two 45 = .ok (.invokevirtual 219, 3) := by decide +kernel
theorem dX3_two_48 : decode cX3_two 48 = .ok (.aload_n 0, 1) := by decide +kernel
theorem dX3_two_49 : decode cX3_two 49 = .ok (.iload_n 1, 1) := by decide +kernel
theorem dX3_two_50 : decode cX3_two 50 = .ok (.iload_n 2, 1) := by decide +kernel
theorem dX3_two_51 : decode cX3_two 51 = .ok (.iload 4, 2) := by decide +kernel
theorem dX3_two_53 : decode cX3_two 53 = .ok (.iconst 2, 1) := by decide +kernel
theorem dX3_two_54 : decode cX3_two 54 = .ok (.idiv, 1) := by decide +kernel
theorem dX3_two_55 : decode cX3_two 55 = .ok (.iadd, 1) := by decide +kernel
theorem dX3_two_56 : decode cX3_two 56 = .ok (.aload_n 0, 1) := by decide +kernel
theorem dX3_two_57 : decode cX3_two 57 = .ok (.getfield 70, 3) := by decide +kernel
theorem dX3_two_60 : decode cX3_two 60 = .ok (.irem, 1) := by decide +kernel
theorem dX3_two_61 : decode cX3_two 61 = .ok (.aload_n 0, 1) := by decide +kernel
theorem dX3_two_62 : decode cX3_two 62 = .ok (.getfield 127, 3) := by decide +kernel
theorem dX3_two_65 : decode cX3_two 65 = .ok (.iconst 1, 1) := by decide +kernel
theorem dX3_two_66 : decode cX3_two 66 = .ok (.iadd, 1) := by decide +kernel
theorem dX3_two_67 : decode cX3_two 67 = .ok (.invokevirtual 225, 3) := by decide +kernel
theorem dX3_two_70 : decode cX3_two 70 = .ok (.aload_n 0, 1) := by decide +kernel
theorem dX3_two_71 : decode cX3_two 71 = .ok (.iload_n 1, 1) := by decide +kernel
theorem dX3_two_72 : decode cX3_two 72 = .ok (.iload_n 3, 1) := by decide +kernel
theorem dX3_two_73 : decode cX3_two 73 = .ok (.iload 4, 2) := by decide +kernel
theorem dX3_two_75 : decode cX3_two 75 = .ok (.iconst 2, 1) := by decide +kernel
theorem dX3_two_76 : decode cX3_two 76 = .ok (.irem, 1) := by decide +kernel
theorem dX3_two_77 : decode cX3_two 77 = .ok (.iadd, 1) := by decide +kernel
theorem dX3_two_78 : decode cX3_two 78 = .ok (.aload_n 0, 1) := by decide +kernel
theorem dX3_two_79 : decode cX3_two 79 = .ok (.getfield 70, 3) := by decide +kernel
theorem dX3_two_82 : decode cX3_two 82 = .ok (.irem, 1) := by decide +kernel
theorem dX3_two_83 : decode cX3_two 83 = .ok (.aload_n 0, 1) := by decide +kernel
theorem dX3_two_84 : decode cX3_two 84 = .ok (.getfield 127, 3) := by decide +kernel
theorem dX3_two_87 : decode cX3_two 87 = .ok (.iconst 2, 1) := by decide +kernel
theorem dX3_two_88 : decode cX3_two 88 = .ok (.iadd, 1) := by decide +kernel
theorem dX3_two_89 : decode cX3_two 89 = .ok (.invokevirtual 225, 3) := by decide +kernel
theorem dX3_two_92 : decode cX3_two 92 = .ok (.aload_n 0, 1) := by decide +kernel
theorem dX3_two_93 : decode cX3_two 93 = .ok (.getfield 64, 3) := by decide +kernel
theorem dX3_two_96 : decode cX3_two 96 = .ok (.iload 4, 2) := by decide +kernel
theorem dX3_two_98 : decode cX3_two 98 = .ok (.aload_n 0, 1) := by decide +kernel
theorem dX3_two_99 : decode cX3_two 99 = .ok (.getfield 61, 3) := by decide +kernel
theorem dX3_two_102 : decode cX3_two 102 = .ok (.invokestatic 199, 3) := by decide +kernel
theorem dX3_two_105 : decode cX3_two 105 = .ok (.iastore, 1) := by decide +kernel
theorem dX3_two_106 : decode cX3_two 106 = .ok (.iinc 4 1, 3) := by decide +kernel
theorem dX3_two_109 : decode cX3_two 109 = .ok (.goto (-71), 3) := by decide +kernel
theorem dX3_two_112 : decode cX3_two 112 = .ok (.iconst 0, 1) := by decide +kernel
theorem dX3_two_113 : decode cX3_two 113 = .ok (.istore 4, 2) := by decide +kernel
theorem dX3_two_115 : decode cX3_two 115 = .ok (.iload 4, 2) := by decide +kernel
theorem dX3_two_117 : decode cX3_two 117 = .ok (.iconst 4, 1) := by decide +kernel
theorem dX3_two_118 : decode cX3_two 118 = .ok (.if_icmp .ge 60, 3) := by decide +kernel
theorem dX3_two_121 : decode cX3_two 121 = .ok (.aload_n 0, 1) := by decide +kernel
theorem dX3_two_122 : decode cX3_two 122 = .ok (.getfield 64, 3) := by decide +kernel
theorem dX3_two_125 : decode cX3_two 125 = .ok (.iload 4, 2) := by decide +kernel
theorem dX3_two_127 : decode cX3_two 127 = .ok (.iconst 2, 1) := by decide +kernel
theorem dX3_two_128 : decode cX3_two 128 = .ok (.ixor, 1) := by decide +kernel
theorem dX3_two_129 : decode cX3_two 129 = .ok (.iaload, 1) := by decide +kernel
theorem dX3_two_130 : decode cX3_two 130 = .ok (.aload_n 0, 1) := by decide +kernel
theorem dX3_two_131 : decode cX3_two 131 = .ok (.getfield 64, 3) := by decide +kernel
theorem dX3_two_134 : decode cX3_two 134 = .ok (.iload 4, 2) := by decide +kernel
theorem dX3_two_136 : decode cX3_two 136 = .ok (.iaload, 1) := by decide +kernel
theorem dX3_two_137 : decode cX3_two 137 = .ok (.if_icmp .gt 35, 3) := by decide +kernel
theorem dX3_two_140 : decode cX3_two 140 = .ok (.aload_n 0, 1) := by decide +kernel
theorem dX3_two_141 : decode cX3_two 141 = .ok (.getfield 64, 3) := by decide +kernel
theorem dX3_two_144 : decode cX3_two 144 = .ok (.iload 4, 2) := by decide +kernel
theorem dX3_two_146 : decode cX3_two 146 = .ok (.iconst 1, 1) := by decide +kernel
theorem dX3_two_147 : decode cX3_two 147 = .ok (.ixor, 1) := by decide +kernel
theorem dX3_two_148 : decode cX3_two 148 = .ok (.iaload, 1) := by decide +kernel
theorem dX3_two_149 : decode cX3_two 149 = .ok (.aload_n 0, 1) := by decide +kernel
theorem dX3_two_150 : decode cX3_two 150 = .ok (.getfield 64, 3) := by decide +kernel
theorem dX3_two_153 : decode cX3_two 153 = .ok (.iload 4, 2) := by decide +kernel
theorem dX3_two_155 : decode cX3_two 155 = .ok (.iaload, 1) := by decide +kernel
theorem dX3_two_156 : decode cX3_two 156 = .ok (.if_icmp .lt 16, 3) := by decide +kernel
theorem dX3_two_159 : decode cX3_two 159 = .ok (.bipush 10, 2) := by decide +kernel
theorem dX3_two_161 : decode cX3_two 161 = .ok (.iload 4, 2) := by decide +kernel
theorem dX3_two_163 : decode cX3_two 163 = .ok (.iconst 2, 1) := by decide +kernel
theorem dX3_two_164 : decode cX3_two 164 = .ok (.idiv, 1) := by decide +kernel
theorem dX3_two_165 : decode cX3_two 165 = .ok (.imul, 1) := by decide +kernel
theorem dX3_two_166 : decode cX3_two 166 = .ok (.iload 4, 2) := by decide +kernel
theorem dX3_two_168 : decode cX3_two 168 = .ok (.iconst 2, 1) := by decide +kernel
theorem dX3_two_169 : decode cX3_two 169 = .ok (.irem, 1) := by decide +kernel
theorem dX3_two_170 : decode cX3_two 170 = .ok (.iadd, 1) := by decide +kernel
theorem dX3_two_171 : decode cX3_two 171 = .ok (.ireturn, 1) := by decide +kernel
theorem dX3_two_172 : decode cX3_two 172 = .ok (.iinc 4 1, 3) := by decide +kernel
theorem dX3_two_175 : decode cX3_two 175 = .ok (.goto (-60), 3) := by decide +kernel
theorem dX3_two_178 : decode cX3_two 178 = .ok (.bipush (-9), 2) := by decide +kernel
theorem dX3_two_180 : decode cX3_two 180 = .ok (.ireturn, 1) := by decide +kernel
set_option maxRecDepth 20000 in
theorem ggX3_drawn_X3_isWitness : GoodIn wsX3_drawn wsX3_isWitness := goodIn_r _ [6, 7, 96, 97, 98, 99, 100, 101, 102, 103, 104, 105, 106, 107, 108, 109, 110, 111, 112, 113, 114, 115, 116, 117, 118, 119, 120, 121, 122, 123, 124, 125, 126, 127, 128] (by decide +kernel) (by decide +kernel)
set_option maxRecDepth 20000 in
theorem gX3_drawn_X3_isWitness : GoodIn wsX3_drawn (wsV RX3 121 RX3 yX3_isWitness wsX3_isWitness) := goodIn_app (goodIn_of _ (by decide +kernel)) ggX3_drawn_X3_isWitness
set_option maxRecDepth 20000 in
theorem ggX3_drawn_X3_isFact : GoodIn wsX3_drawn wsX3_isFact := goodIn_r _ [10] (by decide +kernel) (by decide +kernel)
set_option maxRecDepth 20000 in
theorem gX3_drawn_X3_isFact : GoodIn wsX3_drawn (va_wsS RX3 118 yX3_isFact wsX3_isFact) := goodIn_app (goodIn_of _ (by decide +kernel)) ggX3_drawn_X3_isFact
set_option maxRecDepth 20000 in
theorem ggX3_drawn_X3_bound : GoodIn wsX3_drawn wsX3_bound := goodIn_r _ [13] (by decide +kernel) (by decide +kernel)
set_option maxRecDepth 20000 in
theorem gX3_drawn_X3_bound : GoodIn wsX3_drawn (va_wsS RX3 79 yX3_bound wsX3_bound) := goodIn_app (goodIn_of _ (by decide +kernel)) ggX3_drawn_X3_bound
set_option maxRecDepth 20000 in
theorem ggX3_drawn_X3_isIn : GoodIn wsX3_drawn wsX3_isIn := goodIn_r _ [16] (by decide +kernel) (by decide +kernel)
set_option maxRecDepth 20000 in
theorem gX3_drawn_X3_isIn : GoodIn wsX3_drawn (va_wsS RX3 97 yX3_isIn wsX3_isIn) := goodIn_app (goodIn_of _ (by decide +kernel)) ggX3_drawn_X3_isIn
set_option maxRecDepth 20000 in
theorem ggX3_drawn_X3_lowest : GoodIn wsX3_drawn wsX3_lowest := goodIn_r _ [20, 21, 22, 96, 97, 98, 99, 100, 101, 102, 103, 104, 105, 106, 107, 108, 109, 110, 111, 112, 113, 114, 115, 116, 117, 118, 119, 120, 121, 122, 123, 124, 125, 126, 127, 128] (by decide +kernel) (by decide +kernel)
set_option maxRecDepth 20000 in
theorem gX3_drawn_X3_lowest : GoodIn wsX3_drawn (wsV RX3 249 RX3 yX3_lowest wsX3_lowest) := goodIn_app (goodIn_of _ (by decide +kernel)) ggX3_drawn_X3_lowest
set_option maxRecDepth 20000 in
theorem ggX3_drawn_X3_findFit : GoodIn wsX3_drawn wsX3_findFit := goodIn_r _ [26, 27, 28, 29, 30, 5, 31, 32, 33, 34, 35, 36, 1, 37, 38, 39, 40, 41, 42, 43, 44, 45, 46, 47, 48, 49, 50, 51, 52, 53, 54, 55, 56, 57, 58, 59, 60, 61, 62, 63, 64, 65, 96, 97, 98, 99, 100, 101, 102, 103, 104, 105, 106, 107, 108, 109, 110, 111, 112, 113, 114, 115, 116, 117, 118, 119, 120, 121, 122, 123, 124, 125, 126, 127, 128] (by decide +kernel) (by decide +kernel)
set_option maxRecDepth 20000 in
theorem gX3_drawn_X3_findFit : GoodIn wsX3_drawn (wsV RX3 206 RX3 yX3_findFit wsX3_findFit) := goodIn_app (goodIn_of _ (by decide +kernel)) ggX3_drawn_X3_findFit
set_option maxRecDepth 20000 in
theorem ggX3_drawn_X3_power : GoodIn wsX3_drawn wsX3_power := goodIn_r _ [68] (by decide +kernel) (by decide +kernel)
set_option maxRecDepth 20000 in
theorem gX3_drawn_X3_power : GoodIn wsX3_drawn (va_wsS RX3 222 yX3_power wsX3_power) := goodIn_app (goodIn_of _ (by decide +kernel)) ggX3_drawn_X3_power
set_option maxRecDepth 20000 in
theorem ggX3_drawn_X3_isSettled : GoodIn wsX3_drawn wsX3_isSettled := goodIn_r _ [72, 1, 73, 74, 75, 76, 77, 5, 78, 27, 66, 67, 68, 79, 80, 81, 82, 83, 40, 41, 42, 43, 44, 45, 46, 47, 48, 49, 50, 51, 52, 53, 54, 55, 56, 57, 58, 59, 60, 84, 85, 86, 87, 88, 89, 96, 97, 98, 99, 100, 101, 102, 103, 104, 105, 106, 107, 108, 109, 110, 111, 112, 113, 114, 115, 116, 117, 118, 119, 120, 121, 122, 123, 124, 125, 126, 127, 128] (by decide +kernel) (by decide +kernel)
set_option maxRecDepth 20000 in
theorem gX3_drawn_X3_isSettled : GoodIn wsX3_drawn (wsV RX3 229 RX3 yX3_isSettled wsX3_isSettled) := goodIn_app (goodIn_of _ (by decide +kernel)) ggX3_drawn_X3_isSettled
set_option maxRecDepth 20000 in
theorem ggX3_drawn_X3_partOf : GoodIn wsX3_drawn wsX3_partOf := goodIn_r _ [92, 93, 94, 5, 95] (by decide +kernel) (by decide +kernel)
set_option maxRecDepth 20000 in
theorem gX3_drawn_X3_partOf : GoodIn wsX3_drawn (va_wsS RX3 253 yX3_partOf wsX3_partOf) := goodIn_app (goodIn_of _ (by decide +kernel)) ggX3_drawn_X3_partOf
theorem dX3_drawn_0 : decode cX3_drawn 0 = .ok (.aload_n 0, 1) := by decide +kernel
theorem dX3_drawn_1 : decode cX3_drawn 1 = .ok (.iload_n 1, 1) := by decide +kernel
theorem dX3_drawn_2 : decode cX3_drawn 2 = .ok (.invokevirtual 121, 3) := by decide +kernel
theorem dX3_drawn_5 : decode cX3_drawn 5 = .ok (.ifCond .eq 10, 3) := by decide +kernel
theorem dX3_drawn_8 : decode cX3_drawn 8 = .ok (.iload_n 3, 1) := by decide +kernel
theorem dX3_drawn_9 : decode cX3_drawn 9 = .ok (.invokestatic 118, 3) := by decide +kernel
theorem dX3_drawn_12 : decode cX3_drawn 12 = .ok (.ifCond .ne 7, 3) := by decide +kernel
theorem dX3_drawn_15 : decode cX3_drawn 15 = .ok (.iconst (-1), 1) := by decide +kernel
theorem dX3_drawn_16 : decode cX3_drawn 16 = .ok (.goto 9, 3) := by decide +kernel
theorem dX3_drawn_19 : decode cX3_drawn 19 = .ok (.iload_n 2, 1) := by decide +kernel
theorem dX3_drawn_20 : decode cX3_drawn 20 = .ok (.iconst 0, 1) := by decide +kernel
theorem dX3_drawn_21 : decode cX3_drawn 21 = .ok (.iconst 4, 1) := by decide +kernel
theorem dX3_drawn_22 : decode cX3_drawn 22 = .ok (.invokestatic 79, 3) := by decide +kernel
theorem dX3_drawn_25 : decode cX3_drawn 25 = .ok (.istore 5, 2) := by decide +kernel
theorem dX3_drawn_27 : decode cX3_drawn 27 = .ok (.iload 5, 2) := by decide +kernel
theorem dX3_drawn_29 : decode cX3_drawn 29 = .ok (.ifCond .ne 33, 3) := by decide +kernel
theorem dX3_drawn_32 : decode cX3_drawn 32 = .ok (.iload 4, 2) := by decide +kernel
theorem dX3_drawn_34 : decode cX3_drawn 34 = .ok (.iconst 0, 1) := by decide +kernel
theorem dX3_drawn_35 : decode cX3_drawn 35 = .ok (.iconst 1, 1) := by decide +kernel
theorem dX3_drawn_36 : decode cX3_drawn 36 = .ok (.invokestatic 97, 3) := by decide +kernel
theorem dX3_drawn_39 : decode cX3_drawn 39 = .ok (.ifCond .ne 8, 3) := by decide +kernel
theorem dX3_drawn_42 : decode cX3_drawn 42 = .ok (.bipush (-2), 2) := by decide +kernel
theorem dX3_drawn_44 : decode cX3_drawn 44 = .ok (.goto 16, 3) := by decide +kernel
theorem dX3_drawn_47 : decode cX3_drawn 47 = .ok (.aload_n 0, 1) := by decide +kernel
theorem dX3_drawn_48 : decode cX3_drawn 48 = .ok (.getfield 70, 3) := by decide +kernel
theorem dX3_drawn_51 : decode cX3_drawn 51 = .ok (.ifCond .ne 8, 3) := by decide +kernel
theorem dX3_drawn_54 : decode cX3_drawn 54 = .ok (.bipush (-3), 2) := by decide +kernel
theorem dX3_drawn_56 : decode cX3_drawn 56 = .ok (.goto 4, 3) := by decide +kernel
theorem dX3_drawn_59 : decode cX3_drawn 59 = .ok (.iconst 0, 1) := by decide +kernel
theorem dX3_drawn_60 : decode cX3_drawn 60 = .ok (.istore 5, 2) := by decide +kernel
theorem dX3_drawn_62 : decode cX3_drawn 62 = .ok (.iload 5, 2) := by decide +kernel
theorem dX3_drawn_64 : decode cX3_drawn 64 = .ok (.ifCond .eq 10, 3) := by decide +kernel
theorem dX3_drawn_67 : decode cX3_drawn 67 = .ok (.aload_n 0, 1) := by decide +kernel
theorem dX3_drawn_68 : decode cX3_drawn 68 = .ok (.iload 5, 2) := by decide +kernel
theorem dX3_drawn_70 : decode cX3_drawn 70 = .ok (.invokevirtual 249, 3) := by decide +kernel
theorem dX3_drawn_73 : decode cX3_drawn 73 = .ok (.lreturn, 1) := by decide +kernel
theorem dX3_drawn_74 : decode cX3_drawn 74 = .ok (.aload_n 0, 1) := by decide +kernel
theorem dX3_drawn_75 : decode cX3_drawn 75 = .ok (.iconst 0, 1) := by decide +kernel
theorem dX3_drawn_76 : decode cX3_drawn 76 = .ok (.invokevirtual 206, 3) := by decide +kernel
theorem dX3_drawn_79 : decode cX3_drawn 79 = .ok (.lconst 0, 1) := by decide +kernel
theorem dX3_drawn_80 : decode cX3_drawn 80 = .ok (.lstore 6, 2) := by decide +kernel
theorem dX3_drawn_82 : decode cX3_drawn 82 = .ok (.iconst 0, 1) := by decide +kernel
theorem dX3_drawn_83 : decode cX3_drawn 83 = .ok (.istore 8, 2) := by decide +kernel
theorem dX3_drawn_85 : decode cX3_drawn 85 = .ok (.iload 8, 2) := by decide +kernel
theorem dX3_drawn_87 : decode cX3_drawn 87 = .ok (.aload_n 0, 1) := by decide +kernel
theorem dX3_drawn_88 : decode cX3_drawn 88 = .ok (.getfield 70, 3) := by decide +kernel
theorem dX3_drawn_91 : decode cX3_drawn 91 = .ok (.iload_n 2, 1) := by decide +kernel
theorem dX3_drawn_92 : decode cX3_drawn 92 = .ok (.invokestatic 222, 3) := by decide +kernel
theorem dX3_drawn_95 : decode cX3_drawn 95 = .ok (.if_icmp .ge 31, 3) := by decide +kernel
theorem dX3_drawn_98 : decode cX3_drawn 98 = .ok (.lload 6, 2) := by decide +kernel
theorem dX3_drawn_100 : decode cX3_drawn 100 = .ok (.aload_n 0, 1) := by decide +kernel
theorem dX3_drawn_101 : decode cX3_drawn 101 = .ok (.iload_n 1, 1) := by decide +kernel
theorem dX3_drawn_102 : decode cX3_drawn 102 = .ok (.iload_n 3, 1) := by decide +kernel
theorem dX3_drawn_103 : decode cX3_drawn 103 = .ok (.iload 8, 2) := by decide +kernel
theorem dX3_drawn_105 : decode cX3_drawn 105 = .ok (.iload_n 2, 1) := by decide +kernel
theorem dX3_drawn_106 : decode cX3_drawn 106 = .ok (.invokevirtual 229, 3) := by decide +kernel
theorem dX3_drawn_109 : decode cX3_drawn 109 = .ok (.ifCond .eq 7, 3) := by decide +kernel
theorem dX3_drawn_112 : decode cX3_drawn 112 = .ok (.lconst 1, 1) := by decide +kernel
theorem dX3_drawn_113 : decode cX3_drawn 113 = .ok (.goto 4, 3) := by decide +kernel
theorem dX3_drawn_116 : decode cX3_drawn 116 = .ok (.lconst 0, 1) := by decide +kernel
theorem dX3_drawn_117 : decode cX3_drawn 117 = .ok (.ladd, 1) := by decide +kernel
theorem dX3_drawn_118 : decode cX3_drawn 118 = .ok (.lstore 6, 2) := by decide +kernel
theorem dX3_drawn_120 : decode cX3_drawn 120 = .ok (.iinc 8 1, 3) := by decide +kernel
theorem dX3_drawn_123 : decode cX3_drawn 123 = .ok (.goto (-38), 3) := by decide +kernel
theorem dX3_drawn_126 : decode cX3_drawn 126 = .ok (.lload 6, 2) := by decide +kernel
theorem dX3_drawn_128 : decode cX3_drawn 128 = .ok (.aload_n 0, 1) := by decide +kernel
theorem dX3_drawn_129 : decode cX3_drawn 129 = .ok (.getfield 70, 3) := by decide +kernel
theorem dX3_drawn_132 : decode cX3_drawn 132 = .ok (.iload_n 2, 1) := by decide +kernel
theorem dX3_drawn_133 : decode cX3_drawn 133 = .ok (.invokestatic 222, 3) := by decide +kernel
theorem dX3_drawn_136 : decode cX3_drawn 136 = .ok (.i2l, 1) := by decide +kernel
theorem dX3_drawn_137 : decode cX3_drawn 137 = .ok (.iload 4, 2) := by decide +kernel
theorem dX3_drawn_139 : decode cX3_drawn 139 = .ok (.invokestatic 253, 3) := by decide +kernel
theorem dX3_drawn_142 : decode cX3_drawn 142 = .ok (.lreturn, 1) := by decide +kernel
set_option maxRecDepth 20000 in
theorem ggX3_isRowSo_X3_answerOf : GoodIn wsX3_isRowSo wsX3_answerOf := goodIn_r _ [9, 10, 11, 12, 13, 14, 15, 8, 16, 17, 18, 19, 20, 21, 22, 23, 24, 25, 26, 27, 28, 29, 30, 31, 32, 33, 34, 35, 36, 37, 38, 39, 40, 41, 42, 43, 44, 45, 46, 47, 48, 49, 50, 51, 52, 53, 54, 55, 56, 57, 58, 59, 60] (by decide +kernel) (by decide +kernel)
set_option maxRecDepth 20000 in
theorem gX3_isRowSo_X3_answerOf : GoodIn wsX3_isRowSo (wsV RX3 186 RX3 yX3_answerOf wsX3_answerOf) := goodIn_app (goodIn_of _ (by decide +kernel)) ggX3_isRowSo_X3_answerOf
theorem dX3_isRowSo_0 : decode cX3_isRowSo 0 = .ok (.iconst 0, 1) := by decide +kernel
theorem dX3_isRowSo_1 : decode cX3_isRowSo 1 = .ok (.istore_n 2, 1) := by decide +kernel
theorem dX3_isRowSo_2 : decode cX3_isRowSo 2 = .ok (.iload_n 2, 1) := by decide +kernel
theorem dX3_isRowSo_3 : decode cX3_isRowSo 3 = .ok (.aload_n 0, 1) := by decide +kernel
theorem dX3_isRowSo_4 : decode cX3_isRowSo 4 = .ok (.getfield 266, 3) := by decide +kernel
theorem dX3_isRowSo_7 : decode cX3_isRowSo 7 = .ok (.if_icmp .ge 36, 3) := by decide +kernel
theorem dX3_isRowSo_10 : decode cX3_isRowSo 10 = .ok (.aload_n 0, 1) := by decide +kernel
theorem dX3_isRowSo_11 : decode cX3_isRowSo 11 = .ok (.iload_n 1, 1) := by decide +kernel
theorem dX3_isRowSo_12 : decode cX3_isRowSo 12 = .ok (.iload_n 2, 1) := by decide +kernel
theorem dX3_isRowSo_13 : decode cX3_isRowSo 13 = .ok (.aload_n 0, 1) := by decide +kernel
theorem dX3_isRowSo_14 : decode cX3_isRowSo 14 = .ok (.getfield 134, 3) := by decide +kernel
theorem dX3_isRowSo_17 : decode cX3_isRowSo 17 = .ok (.aload_n 0, 1) := by decide +kernel
theorem dX3_isRowSo_18 : decode cX3_isRowSo 18 = .ok (.getfield 127, 3) := by decide +kernel
theorem dX3_isRowSo_21 : decode cX3_isRowSo 21 = .ok (.iconst 1, 1) := by decide +kernel
theorem dX3_isRowSo_22 : decode cX3_isRowSo 22 = .ok (.iadd, 1) := by decide +kernel
theorem dX3_isRowSo_23 : decode cX3_isRowSo 23 = .ok (.invokevirtual 186, 3) := by decide +kernel
theorem dX3_isRowSo_26 : decode cX3_isRowSo 26 = .ok (.aload_n 0, 1) := by decide +kernel
theorem dX3_isRowSo_27 : decode cX3_isRowSo 27 = .ok (.getfield 67, 3) := by decide +kernel
theorem dX3_isRowSo_30 : decode cX3_isRowSo 30 = .ok (.iload_n 2, 1) := by decide +kernel
theorem dX3_isRowSo_31 : decode cX3_isRowSo 31 = .ok (.iaload, 1) := by decide +kernel
theorem dX3_isRowSo_32 : decode cX3_isRowSo 32 = .ok (.if_icmp .eq 5, 3) := by decide +kernel
theorem dX3_isRowSo_35 : decode cX3_isRowSo 35 = .ok (.iconst 0, 1) := by decide +kernel
theorem dX3_isRowSo_36 : decode cX3_isRowSo 36 = .ok (.ireturn, 1) := by decide +kernel
theorem dX3_isRowSo_37 : decode cX3_isRowSo 37 = .ok (.iinc 2 1, 3) := by decide +kernel
theorem dX3_isRowSo_40 : decode cX3_isRowSo 40 = .ok (.goto (-38), 3) := by decide +kernel
theorem dX3_isRowSo_43 : decode cX3_isRowSo 43 = .ok (.iconst 1, 1) := by decide +kernel
theorem dX3_isRowSo_44 : decode cX3_isRowSo 44 = .ok (.ireturn, 1) := by decide +kernel
set_option maxRecDepth 20000 in
theorem ggX3_kindsOf_X3_isRowSo : GoodIn wsX3_kindsOf wsX3_isRowSo := goodIn_r _ [6, 7, 8, 9, 10, 11, 12, 13, 5, 14, 1, 15, 16, 17, 18, 19, 20, 21, 22, 23, 24, 25, 26, 27, 28, 29, 30, 31, 32, 33, 34, 35, 36, 37, 38, 39, 40, 41, 42, 43, 44, 45, 46, 47, 48, 49, 50, 51, 52, 53, 54, 55, 56, 57, 58, 59, 60, 61, 62, 63, 64] (by decide +kernel) (by decide +kernel)
set_option maxRecDepth 20000 in
theorem gX3_kindsOf_X3_isRowSo : GoodIn wsX3_kindsOf (wsV RX3 269 RX3 yX3_isRowSo wsX3_isRowSo) := goodIn_app (goodIn_of _ (by decide +kernel)) ggX3_kindsOf_X3_isRowSo
theorem dX3_kindsOf_0 : decode cX3_kindsOf 0 = .ok (.aload_n 0, 1) := by decide +kernel
theorem dX3_kindsOf_1 : decode cX3_kindsOf 1 = .ok (.getfield 22, 3) := by decide +kernel
theorem dX3_kindsOf_4 : decode cX3_kindsOf 4 = .ok (.iload_n 1, 1) := by decide +kernel
theorem dX3_kindsOf_5 : decode cX3_kindsOf 5 = .ok (.iaload, 1) := by decide +kernel
theorem dX3_kindsOf_6 : decode cX3_kindsOf 6 = .ok (.istore_n 2, 1) := by decide +kernel
theorem dX3_kindsOf_7 : decode cX3_kindsOf 7 = .ok (.iconst 0, 1) := by decide +kernel
theorem dX3_kindsOf_8 : decode cX3_kindsOf 8 = .ok (.istore_n 3, 1) := by decide +kernel
theorem dX3_kindsOf_9 : decode cX3_kindsOf 9 = .ok (.iconst 0, 1) := by decide +kernel
theorem dX3_kindsOf_10 : decode cX3_kindsOf 10 = .ok (.istore 4, 2) := by decide +kernel
theorem dX3_kindsOf_12 : decode cX3_kindsOf 12 = .ok (.iload 4, 2) := by decide +kernel
theorem dX3_kindsOf_14 : decode cX3_kindsOf 14 = .ok (.bipush 6, 2) := by decide +kernel
theorem dX3_kindsOf_16 : decode cX3_kindsOf 16 = .ok (.if_icmp .ge 36, 3) := by decide +kernel
theorem dX3_kindsOf_19 : decode cX3_kindsOf 19 = .ok (.aload_n 0, 1) := by decide +kernel
theorem dX3_kindsOf_20 : decode cX3_kindsOf 20 = .ok (.getfield 22, 3) := by decide +kernel
theorem dX3_kindsOf_23 : decode cX3_kindsOf 23 = .ok (.iload_n 1, 1) := by decide +kernel
theorem dX3_kindsOf_24 : decode cX3_kindsOf 24 = .ok (.iload 4, 2) := by decide +kernel
theorem dX3_kindsOf_26 : decode cX3_kindsOf 26 = .ok (.iastore, 1) := by decide +kernel
theorem dX3_kindsOf_27 : decode cX3_kindsOf 27 = .ok (.iload_n 3, 1) := by decide +kernel
theorem dX3_kindsOf_28 : decode cX3_kindsOf 28 = .ok (.aload_n 0, 1) := by decide +kernel
theorem dX3_kindsOf_29 : decode cX3_kindsOf 29 = .ok (.iload_n 1, 1) := by decide +kernel
theorem dX3_kindsOf_30 : decode cX3_kindsOf 30 = .ok (.invokevirtual 269, 3) := by decide +kernel
theorem dX3_kindsOf_33 : decode cX3_kindsOf 33 = .ok (.ifCond .eq 10, 3) := by decide +kernel
theorem dX3_kindsOf_36 : decode cX3_kindsOf 36 = .ok (.iconst 1, 1) := by decide +kernel
theorem dX3_kindsOf_37 : decode cX3_kindsOf 37 = .ok (.iload 4, 2) := by decide +kernel
theorem dX3_kindsOf_39 : decode cX3_kindsOf 39 = .ok (.ishl, 1) := by decide +kernel
theorem dX3_kindsOf_40 : decode cX3_kindsOf 40 = .ok (.goto 4, 3) := by decide +kernel
theorem dX3_kindsOf_43 : decode cX3_kindsOf 43 = .ok (.iconst 0, 1) := by decide +kernel
theorem dX3_kindsOf_44 : decode cX3_kindsOf 44 = .ok (.ior, 1) := by decide +kernel
theorem dX3_kindsOf_45 : decode cX3_kindsOf 45 = .ok (.istore_n 3, 1) := by decide +kernel
theorem dX3_kindsOf_46 : decode cX3_kindsOf 46 = .ok (.iinc 4 1, 3) := by decide +kernel
theorem dX3_kindsOf_49 : decode cX3_kindsOf 49 = .ok (.goto (-37), 3) := by decide +kernel
theorem dX3_kindsOf_52 : decode cX3_kindsOf 52 = .ok (.aload_n 0, 1) := by decide +kernel
theorem dX3_kindsOf_53 : decode cX3_kindsOf 53 = .ok (.getfield 22, 3) := by decide +kernel
theorem dX3_kindsOf_56 : decode cX3_kindsOf 56 = .ok (.iload_n 1, 1) := by decide +kernel
theorem dX3_kindsOf_57 : decode cX3_kindsOf 57 = .ok (.iload_n 2, 1) := by decide +kernel
theorem dX3_kindsOf_58 : decode cX3_kindsOf 58 = .ok (.iastore, 1) := by decide +kernel
theorem dX3_kindsOf_59 : decode cX3_kindsOf 59 = .ok (.iload_n 3, 1) := by decide +kernel
theorem dX3_kindsOf_60 : decode cX3_kindsOf 60 = .ok (.ireturn, 1) := by decide +kernel
set_option maxRecDepth 20000 in
theorem ggX3_whatIs_X3_isWitness : GoodIn wsX3_whatIs wsX3_isWitness := goodIn_r _ [8, 9, 49, 50, 51, 52, 53, 54, 55, 56, 57, 58, 59, 60, 61, 62, 63, 64, 65, 66, 67, 68, 69, 70, 71, 72, 73, 74, 75, 76, 77, 78, 79, 80, 81] (by decide +kernel) (by decide +kernel)
set_option maxRecDepth 20000 in
theorem gX3_whatIs_X3_isWitness : GoodIn wsX3_whatIs (wsV RX3 121 RX3 yX3_isWitness wsX3_isWitness) := goodIn_app (goodIn_of _ (by decide +kernel)) ggX3_whatIs_X3_isWitness
set_option maxRecDepth 20000 in
theorem ggX3_whatIs_X3_isIn : GoodIn wsX3_whatIs wsX3_isIn := goodIn_r _ [12] (by decide +kernel) (by decide +kernel)
set_option maxRecDepth 20000 in
theorem gX3_whatIs_X3_isIn : GoodIn wsX3_whatIs (va_wsS RX3 97 yX3_isIn wsX3_isIn) := goodIn_app (goodIn_of _ (by decide +kernel)) ggX3_whatIs_X3_isIn
set_option maxRecDepth 20000 in
theorem ggX3_whatIs_X3_no : GoodIn wsX3_whatIs wsX3_no := goodIn_r _ [16, 17, 49, 50, 51, 52, 53, 54, 55, 56, 57, 58, 59, 60, 61, 62, 63, 64, 65, 66, 67, 68, 69, 70, 71, 72, 73, 74, 75, 76, 77, 78, 79, 80, 81] (by decide +kernel) (by decide +kernel)
set_option maxRecDepth 20000 in
theorem gX3_whatIs_X3_no : GoodIn wsX3_whatIs (wsV RX3 86 RX3 yX3_no wsX3_no) := goodIn_app (goodIn_of _ (by decide +kernel)) ggX3_whatIs_X3_no
set_option maxRecDepth 20000 in
theorem ggX3_whatIs_X3_kindsOf : GoodIn wsX3_whatIs wsX3_kindsOf := goodIn_r _ [21, 22, 23, 24, 25, 7, 26, 1, 27, 28, 29, 30, 31, 32, 33, 34, 2, 35, 36, 37, 38, 3, 39, 40, 41, 42, 43, 44, 45, 46, 47, 48, 49, 50, 51, 52, 53, 54, 55, 56, 57, 58, 59, 60, 61, 62, 63, 64, 65, 66, 67, 68, 69, 70, 71, 72, 73, 74, 75, 76, 77, 78, 79, 80, 81] (by decide +kernel) (by decide +kernel)
set_option maxRecDepth 20000 in
theorem gX3_whatIs_X3_kindsOf : GoodIn wsX3_whatIs (wsV RX3 272 RX3 yX3_kindsOf wsX3_kindsOf) := goodIn_app (goodIn_of _ (by decide +kernel)) ggX3_whatIs_X3_kindsOf
set_option maxRecDepth 20000 in
theorem ggX3_whatIs_X3_isRowSo : GoodIn wsX3_whatIs wsX3_isRowSo := goodIn_r _ [26, 1, 27, 28, 29, 30, 31, 32, 7, 33, 22, 34, 2, 35, 36, 37, 38, 3, 39, 40, 41, 42, 43, 44, 45, 46, 47, 48, 49, 50, 51, 52, 53, 54, 55, 56, 57, 58, 59, 60, 61, 62, 63, 64, 65, 66, 67, 68, 69, 70, 71, 72, 73, 74, 75, 76, 77, 78, 79, 80, 81] (by decide +kernel) (by decide +kernel)
set_option maxRecDepth 20000 in
theorem gX3_whatIs_X3_isRowSo : GoodIn wsX3_whatIs (wsV RX3 269 RX3 yX3_isRowSo wsX3_isRowSo) := goodIn_app (goodIn_of _ (by decide +kernel)) ggX3_whatIs_X3_isRowSo
theorem dX3_whatIs_0 : decode cX3_whatIs 0 = .ok (.aload_n 0, 1) := by decide +kernel
theorem dX3_whatIs_1 : decode cX3_whatIs 1 = .ok (.iload_n 1, 1) := by decide +kernel
theorem dX3_whatIs_2 : decode cX3_whatIs 2 = .ok (.invokevirtual 121, 3) := by decide +kernel
theorem dX3_whatIs_5 : decode cX3_whatIs 5 = .ok (.ifCond .ne 7, 3) := by decide +kernel
theorem dX3_whatIs_8 : decode cX3_whatIs 8 = .ok (.iconst (-1), 1) := by decide +kernel
theorem dX3_whatIs_9 : decode cX3_whatIs 9 = .ok (.goto 34, 3) := by decide +kernel
theorem dX3_whatIs_12 : decode cX3_whatIs 12 = .ok (.iload_n 2, 1) := by decide +kernel
theorem dX3_whatIs_13 : decode cX3_whatIs 13 = .ok (.iconst 0, 1) := by decide +kernel
theorem dX3_whatIs_14 : decode cX3_whatIs 14 = .ok (.iconst 1, 1) := by decide +kernel
theorem dX3_whatIs_15 : decode cX3_whatIs 15 = .ok (.invokestatic 97, 3) := by decide +kernel
theorem dX3_whatIs_18 : decode cX3_whatIs 18 = .ok (.ifCond .ne 8, 3) := by decide +kernel
theorem dX3_whatIs_21 : decode cX3_whatIs 21 = .ok (.bipush (-2), 2) := by decide +kernel
theorem dX3_whatIs_23 : decode cX3_whatIs 23 = .ok (.goto 20, 3) := by decide +kernel
theorem dX3_whatIs_26 : decode cX3_whatIs 26 = .ok (.aload_n 0, 1) := by decide +kernel
theorem dX3_whatIs_27 : decode cX3_whatIs 27 = .ok (.getfield 266, 3) := by decide +kernel
theorem dX3_whatIs_30 : decode cX3_whatIs 30 = .ok (.aload_n 0, 1) := by decide +kernel
theorem dX3_whatIs_31 : decode cX3_whatIs 31 = .ok (.getfield 70, 3) := by decide +kernel
theorem dX3_whatIs_34 : decode cX3_whatIs 34 = .ok (.if_icmp .le 8, 3) := by decide +kernel
theorem dX3_whatIs_37 : decode cX3_whatIs 37 = .ok (.bipush (-3), 2) := by decide +kernel
theorem dX3_whatIs_39 : decode cX3_whatIs 39 = .ok (.goto 4, 3) := by decide +kernel
theorem dX3_whatIs_42 : decode cX3_whatIs 42 = .ok (.iconst 0, 1) := by decide +kernel
theorem dX3_whatIs_43 : decode cX3_whatIs 43 = .ok (.istore_n 3, 1) := by decide +kernel
theorem dX3_whatIs_44 : decode cX3_whatIs 44 = .ok (.iload_n 3, 1) := by decide +kernel
theorem dX3_whatIs_45 : decode cX3_whatIs 45 = .ok (.ifCond .eq 9, 3) := by decide +kernel
theorem dX3_whatIs_48 : decode cX3_whatIs 48 = .ok (.aload_n 0, 1) := by decide +kernel
theorem dX3_whatIs_49 : decode cX3_whatIs 49 = .ok (.iload_n 3, 1) := by decide +kernel
theorem dX3_whatIs_50 : decode cX3_whatIs 50 = .ok (.invokevirtual 86, 3) := by decide +kernel
theorem dX3_whatIs_53 : decode cX3_whatIs 53 = .ok (.ireturn, 1) := by decide +kernel
theorem dX3_whatIs_54 : decode cX3_whatIs 54 = .ok (.iload_n 2, 1) := by decide +kernel
theorem dX3_whatIs_55 : decode cX3_whatIs 55 = .ok (.ifCond .ne 9, 3) := by decide +kernel
theorem dX3_whatIs_58 : decode cX3_whatIs 58 = .ok (.aload_n 0, 1) := by decide +kernel
theorem dX3_whatIs_59 : decode cX3_whatIs 59 = .ok (.iload_n 1, 1) := by decide +kernel
theorem dX3_whatIs_60 : decode cX3_whatIs 60 = .ok (.invokevirtual 272, 3) := by decide +kernel
theorem dX3_whatIs_63 : decode cX3_whatIs 63 = .ok (.ireturn, 1) := by decide +kernel
theorem dX3_whatIs_64 : decode cX3_whatIs 64 = .ok (.aload_n 0, 1) := by decide +kernel
theorem dX3_whatIs_65 : decode cX3_whatIs 65 = .ok (.getfield 28, 3) := by decide +kernel
theorem dX3_whatIs_68 : decode cX3_whatIs 68 = .ok (.iload_n 1, 1) := by decide +kernel
theorem dX3_whatIs_69 : decode cX3_whatIs 69 = .ok (.iaload, 1) := by decide +kernel
theorem dX3_whatIs_70 : decode cX3_whatIs 70 = .ok (.istore 4, 2) := by decide +kernel
theorem dX3_whatIs_72 : decode cX3_whatIs 72 = .ok (.iconst 0, 1) := by decide +kernel
theorem dX3_whatIs_73 : decode cX3_whatIs 73 = .ok (.istore 5, 2) := by decide +kernel
theorem dX3_whatIs_75 : decode cX3_whatIs 75 = .ok (.iconst 0, 1) := by decide +kernel
theorem dX3_whatIs_76 : decode cX3_whatIs 76 = .ok (.istore 6, 2) := by decide +kernel
theorem dX3_whatIs_78 : decode cX3_whatIs 78 = .ok (.iload 6, 2) := by decide +kernel
theorem dX3_whatIs_80 : decode cX3_whatIs 80 = .ok (.bipush 64, 2) := by decide +kernel
theorem dX3_whatIs_82 : decode cX3_whatIs 82 = .ok (.if_icmp .ge 35, 3) := by decide +kernel
theorem dX3_whatIs_85 : decode cX3_whatIs 85 = .ok (.aload_n 0, 1) := by decide +kernel
theorem dX3_whatIs_86 : decode cX3_whatIs 86 = .ok (.getfield 28, 3) := by decide +kernel
theorem dX3_whatIs_89 : decode cX3_whatIs 89 = .ok (.iload_n 1, 1) := by decide +kernel
theorem dX3_whatIs_90 : decode cX3_whatIs 90 = .ok (.iload 6, 2) := by decide +kernel
theorem dX3_whatIs_92 : decode cX3_whatIs 92 = .ok (.iastore, 1) := by decide +kernel
theorem dX3_whatIs_93 : decode cX3_whatIs 93 = .ok (.iload 5, 2) := by decide +kernel
theorem dX3_whatIs_95 : decode cX3_whatIs 95 = .ok (.aload_n 0, 1) := by decide +kernel
theorem dX3_whatIs_96 : decode cX3_whatIs 96 = .ok (.iload_n 1, 1) := by decide +kernel
theorem dX3_whatIs_97 : decode cX3_whatIs 97 = .ok (.invokevirtual 269, 3) := by decide +kernel
theorem dX3_whatIs_100 : decode cX3_whatIs 100 = .ok (.ifCond .eq 7, 3) := by decide +kernel
theorem dX3_whatIs_103 : decode cX3_whatIs 103 = .ok (.iconst 1, 1) := by decide +kernel
theorem dX3_whatIs_104 : decode cX3_whatIs 104 = .ok (.goto 4, 3) := by decide +kernel
theorem dX3_whatIs_107 : decode cX3_whatIs 107 = .ok (.iconst 0, 1) := by decide +kernel
theorem dX3_whatIs_108 : decode cX3_whatIs 108 = .ok (.iadd, 1) := by decide +kernel
theorem dX3_whatIs_109 : decode cX3_whatIs 109 = .ok (.istore 5, 2) := by decide +kernel
theorem dX3_whatIs_111 : decode cX3_whatIs 111 = .ok (.iinc 6 1, 3) := by decide +kernel
theorem dX3_whatIs_114 : decode cX3_whatIs 114 = .ok (.goto (-36), 3) := by decide +kernel
theorem dX3_whatIs_117 : decode cX3_whatIs 117 = .ok (.aload_n 0, 1) := by decide +kernel
theorem dX3_whatIs_118 : decode cX3_whatIs 118 = .ok (.getfield 28, 3) := by decide +kernel
theorem dX3_whatIs_121 : decode cX3_whatIs 121 = .ok (.iload_n 1, 1) := by decide +kernel
theorem dX3_whatIs_122 : decode cX3_whatIs 122 = .ok (.iload 4, 2) := by decide +kernel
theorem dX3_whatIs_124 : decode cX3_whatIs 124 = .ok (.iastore, 1) := by decide +kernel
theorem dX3_whatIs_125 : decode cX3_whatIs 125 = .ok (.iload 5, 2) := by decide +kernel
theorem dX3_whatIs_127 : decode cX3_whatIs 127 = .ok (.ireturn, 1) := by decide +kernel
set_option maxRecDepth 20000 in
theorem ggX3_row_X3_bound : GoodIn wsX3_row wsX3_bound := goodIn_r _ [6] (by decide +kernel) (by decide +kernel)
set_option maxRecDepth 20000 in
theorem gX3_row_X3_bound : GoodIn wsX3_row (va_wsS RX3 79 yX3_bound wsX3_bound) := goodIn_app (goodIn_of _ (by decide +kernel)) ggX3_row_X3_bound
set_option maxRecDepth 20000 in
theorem ggX3_row_X3_no : GoodIn wsX3_row wsX3_no := goodIn_r _ [10, 11, 12, 13, 14, 15, 16, 17, 18, 19, 20, 21, 22, 23, 24, 25, 26, 27, 28, 29, 30, 31, 32, 33, 34, 35, 36, 37, 38, 39, 40, 41, 42, 43, 44] (by decide +kernel) (by decide +kernel)
set_option maxRecDepth 20000 in
theorem gX3_row_X3_no : GoodIn wsX3_row (wsV RX3 86 RX3 yX3_no wsX3_no) := goodIn_app (goodIn_of _ (by decide +kernel)) ggX3_row_X3_no
theorem dX3_row_0 : decode cX3_row 0 = .ok (.iload_n 1, 1) := by decide +kernel
theorem dX3_row_1 : decode cX3_row 1 = .ok (.iconst 0, 1) := by decide +kernel
theorem dX3_row_2 : decode cX3_row 2 = .ok (.bipush 99, 2) := by decide +kernel
theorem dX3_row_4 : decode cX3_row 4 = .ok (.invokestatic 79, 3) := by decide +kernel
theorem dX3_row_7 : decode cX3_row 7 = .ok (.istore_n 2, 1) := by decide +kernel
theorem dX3_row_8 : decode cX3_row 8 = .ok (.iload_n 2, 1) := by decide +kernel
theorem dX3_row_9 : decode cX3_row 9 = .ok (.ifCond .ne 15, 3) := by decide +kernel
theorem dX3_row_12 : decode cX3_row 12 = .ok (.aload_n 0, 1) := by decide +kernel
theorem dX3_row_13 : decode cX3_row 13 = .ok (.getfield 266, 3) := by decide +kernel
theorem dX3_row_16 : decode cX3_row 16 = .ok (.bipush 12, 2) := by decide +kernel
theorem dX3_row_18 : decode cX3_row 18 = .ok (.if_icmp .ne 6, 3) := by decide +kernel
theorem dX3_row_21 : decode cX3_row 21 = .ok (.bipush (-6), 2) := by decide +kernel
theorem dX3_row_23 : decode cX3_row 23 = .ok (.istore_n 2, 1) := by decide +kernel
theorem dX3_row_24 : decode cX3_row 24 = .ok (.iload_n 2, 1) := by decide +kernel
theorem dX3_row_25 : decode cX3_row 25 = .ok (.ifCond .eq 9, 3) := by decide +kernel
theorem dX3_row_28 : decode cX3_row 28 = .ok (.aload_n 0, 1) := by decide +kernel
theorem dX3_row_29 : decode cX3_row 29 = .ok (.iload_n 2, 1) := by decide +kernel
theorem dX3_row_30 : decode cX3_row 30 = .ok (.invokevirtual 86, 3) := by decide +kernel
theorem dX3_row_33 : decode cX3_row 33 = .ok (.ireturn, 1) := by decide +kernel
theorem dX3_row_34 : decode cX3_row 34 = .ok (.aload_n 0, 1) := by decide +kernel
theorem dX3_row_35 : decode cX3_row 35 = .ok (.getfield 67, 3) := by decide +kernel
theorem dX3_row_38 : decode cX3_row 38 = .ok (.aload_n 0, 1) := by decide +kernel
theorem dX3_row_39 : decode cX3_row 39 = .ok (.getfield 266, 3) := by decide +kernel
theorem dX3_row_42 : decode cX3_row 42 = .ok (.iload_n 1, 1) := by decide +kernel
theorem dX3_row_43 : decode cX3_row 43 = .ok (.iastore, 1) := by decide +kernel
theorem dX3_row_44 : decode cX3_row 44 = .ok (.aload_n 0, 1) := by decide +kernel
theorem dX3_row_45 : decode cX3_row 45 = .ok (.dup, 1) := by decide +kernel
theorem dX3_row_46 : decode cX3_row 46 = .ok (.getfield 266, 3) := by decide +kernel
theorem dX3_row_49 : decode cX3_row 49 = .ok (.iconst 1, 1) := by decide +kernel
theorem dX3_row_50 : decode cX3_row 50 = .ok (.iadd, 1) := by decide +kernel
theorem dX3_row_51 : decode cX3_row 51 = .ok (.putfield 266, 3) := by decide +kernel
theorem dX3_row_54 : decode cX3_row 54 = .ok (.aload_n 0, 1) := by decide +kernel
theorem dX3_row_55 : decode cX3_row 55 = .ok (.getfield 266, 3) := by decide +kernel
theorem dX3_row_58 : decode cX3_row 58 = .ok (.ireturn, 1) := by decide +kernel
theorem dX3_judge_0 : decode cX3_judge 0 = .ok (.aload_n 0, 1) := by decide +kernel
theorem dX3_judge_1 : decode cX3_judge 1 = .ok (.getfield 266, 3) := by decide +kernel
theorem dX3_judge_4 : decode cX3_judge 4 = .ok (.istore_n 1, 1) := by decide +kernel
theorem dX3_judge_5 : decode cX3_judge 5 = .ok (.aload_n 0, 1) := by decide +kernel
theorem dX3_judge_6 : decode cX3_judge 6 = .ok (.iconst 0, 1) := by decide +kernel
theorem dX3_judge_7 : decode cX3_judge 7 = .ok (.putfield 266, 3) := by decide +kernel
theorem dX3_judge_10 : decode cX3_judge 10 = .ok (.iconst 0, 1) := by decide +kernel
theorem dX3_judge_11 : decode cX3_judge 11 = .ok (.istore_n 2, 1) := by decide +kernel
theorem dX3_judge_12 : decode cX3_judge 12 = .ok (.iload_n 2, 1) := by decide +kernel
theorem dX3_judge_13 : decode cX3_judge 13 = .ok (.iload_n 1, 1) := by decide +kernel
theorem dX3_judge_14 : decode cX3_judge 14 = .ok (.if_icmp .ge 34, 3) := by decide +kernel
theorem dX3_judge_17 : decode cX3_judge 17 = .ok (.iload_n 2, 1) := by decide +kernel
theorem dX3_judge_18 : decode cX3_judge 18 = .ok (.aload_n 0, 1) := by decide +kernel
theorem dX3_judge_19 : decode cX3_judge 19 = .ok (.getfield 146, 3) := by decide +kernel
theorem dX3_judge_22 : decode cX3_judge 22 = .ok (.if_icmp .ge 18, 3) := by decide +kernel
theorem dX3_judge_25 : decode cX3_judge 25 = .ok (.aload_n 0, 1) := by decide +kernel
theorem dX3_judge_26 : decode cX3_judge 26 = .ok (.getfield 37, 3) := by decide +kernel
theorem dX3_judge_29 : decode cX3_judge 29 = .ok (.iload_n 2, 1) := by decide +kernel
theorem dX3_judge_30 : decode cX3_judge 30 = .ok (.iaload, 1) := by decide +kernel
theorem dX3_judge_31 : decode cX3_judge 31 = .ok (.aload_n 0, 1) := by decide +kernel
theorem dX3_judge_32 : decode cX3_judge 32 = .ok (.getfield 67, 3) := by decide +kernel
theorem dX3_judge_35 : decode cX3_judge 35 = .ok (.iload_n 2, 1) := by decide +kernel
theorem dX3_judge_36 : decode cX3_judge 36 = .ok (.iaload, 1) := by decide +kernel
theorem dX3_judge_37 : decode cX3_judge 37 = .ok (.if_icmp .eq 5, 3) := by decide +kernel
theorem dX3_judge_40 : decode cX3_judge 40 = .ok (.iload_n 2, 1) := by decide +kernel
theorem dX3_judge_41 : decode cX3_judge 41 = .ok (.ireturn, 1) := by decide +kernel
theorem dX3_judge_42 : decode cX3_judge 42 = .ok (.iinc 2 1, 3) := by decide +kernel
theorem dX3_judge_45 : decode cX3_judge 45 = .ok (.goto (-33), 3) := by decide +kernel
theorem dX3_judge_48 : decode cX3_judge 48 = .ok (.bipush (-9), 2) := by decide +kernel
theorem dX3_judge_50 : decode cX3_judge 50 = .ok (.ireturn, 1) := by decide +kernel
theorem dX3_clear_0 : decode cX3_clear 0 = .ok (.aload_n 0, 1) := by decide +kernel
theorem dX3_clear_1 : decode cX3_clear 1 = .ok (.getfield 266, 3) := by decide +kernel
theorem dX3_clear_4 : decode cX3_clear 4 = .ok (.istore_n 1, 1) := by decide +kernel
theorem dX3_clear_5 : decode cX3_clear 5 = .ok (.aload_n 0, 1) := by decide +kernel
theorem dX3_clear_6 : decode cX3_clear 6 = .ok (.iconst 0, 1) := by decide +kernel
theorem dX3_clear_7 : decode cX3_clear 7 = .ok (.putfield 266, 3) := by decide +kernel
theorem dX3_clear_10 : decode cX3_clear 10 = .ok (.iload_n 1, 1) := by decide +kernel
theorem dX3_clear_11 : decode cX3_clear 11 = .ok (.ireturn, 1) := by decide +kernel
theorem dX3_draw_0 : decode cX3_draw 0 = .ok (.aload_n 0, 1) := by decide +kernel
theorem dX3_draw_1 : decode cX3_draw 1 = .ok (.aload_n 0, 1) := by decide +kernel
theorem dX3_draw_2 : decode cX3_draw 2 = .ok (.getfield 275, 3) := by decide +kernel
theorem dX3_draw_5 : decode cX3_draw 5 = .ok (.ldc_w 278, 3) := by decide +kernel
theorem dX3_draw_8 : decode cX3_draw 8 = .ok (.imul, 1) := by decide +kernel
theorem dX3_draw_9 : decode cX3_draw 9 = .ok (.ldc_w 279, 3) := by decide +kernel
theorem dX3_draw_12 : decode cX3_draw 12 = .ok (.iadd, 1) := by decide +kernel
theorem dX3_draw_13 : decode cX3_draw 13 = .ok (.putfield 275, 3) := by decide +kernel
theorem dX3_draw_16 : decode cX3_draw 16 = .ok (.aload_n 0, 1) := by decide +kernel
theorem dX3_draw_17 : decode cX3_draw 17 = .ok (.getfield 275, 3) := by decide +kernel
theorem dX3_draw_20 : decode cX3_draw 20 = .ok (.ldc_w 280, 3) := by decide +kernel
theorem dX3_draw_23 : decode cX3_draw 23 = .ok (.iand, 1) := by decide +kernel
theorem dX3_draw_24 : decode cX3_draw 24 = .ok (.sipush 256, 3) := by decide +kernel
theorem dX3_draw_27 : decode cX3_draw 27 = .ok (.idiv, 1) := by decide +kernel
theorem dX3_draw_28 : decode cX3_draw 28 = .ok (.iload_n 1, 1) := by decide +kernel
theorem dX3_draw_29 : decode cX3_draw 29 = .ok (.irem, 1) := by decide +kernel
theorem dX3_draw_30 : decode cX3_draw 30 = .ok (.ireturn, 1) := by decide +kernel
set_option maxRecDepth 20000 in
theorem ggX3_lots_X3_bound : GoodIn wsX3_lots wsX3_bound := goodIn_r _ [8] (by decide +kernel) (by decide +kernel)
set_option maxRecDepth 20000 in
theorem gX3_lots_X3_bound : GoodIn wsX3_lots (va_wsS RX3 79 yX3_bound wsX3_bound) := goodIn_app (goodIn_of _ (by decide +kernel)) ggX3_lots_X3_bound
set_option maxRecDepth 20000 in
theorem ggX3_lots_X3_isIn : GoodIn wsX3_lots wsX3_isIn := goodIn_r _ [11] (by decide +kernel) (by decide +kernel)
set_option maxRecDepth 20000 in
theorem gX3_lots_X3_isIn : GoodIn wsX3_lots (va_wsS RX3 97 yX3_isIn wsX3_isIn) := goodIn_app (goodIn_of _ (by decide +kernel)) ggX3_lots_X3_isIn
set_option maxRecDepth 20000 in
theorem ggX3_lots_X3_no : GoodIn wsX3_lots wsX3_no := goodIn_r _ [15, 16, 90, 91, 92, 93, 94, 95, 96, 97, 98, 99, 100, 101, 102, 103, 104, 105, 106, 107, 108, 109, 110, 111, 112, 113, 114, 115, 116, 117, 118, 119, 120, 121, 122] (by decide +kernel) (by decide +kernel)
set_option maxRecDepth 20000 in
theorem gX3_lots_X3_no : GoodIn wsX3_lots (wsV RX3 86 RX3 yX3_no wsX3_no) := goodIn_app (goodIn_of _ (by decide +kernel)) ggX3_lots_X3_no
set_option maxRecDepth 20000 in
theorem ggX3_lots_X3_passesAll : GoodIn wsX3_lots wsX3_passesAll := goodIn_r _ [20, 21, 22, 23, 24, 25, 26, 27, 28, 29, 30, 31, 32, 33, 2, 1, 34, 35, 36, 37, 38, 7, 39, 40, 41, 42, 43, 44, 90, 91, 92, 93, 94, 95, 96, 97, 98, 99, 100, 101, 102, 103, 104, 105, 106, 107, 108, 109, 110, 111, 112, 113, 114, 115, 116, 117, 118, 119, 120, 121, 122] (by decide +kernel) (by decide +kernel)
set_option maxRecDepth 20000 in
theorem gX3_lots_X3_passesAll : GoodIn wsX3_lots (wsV RX3 153 RX3 yX3_passesAll wsX3_passesAll) := goodIn_app (goodIn_of _ (by decide +kernel)) ggX3_lots_X3_passesAll
set_option maxRecDepth 20000 in
theorem ggX3_lots_X3_draw : GoodIn wsX3_lots wsX3_draw := goodIn_r _ [48, 3, 49, 50, 51, 90, 91, 92, 93, 94, 95, 96, 97, 98, 99, 100, 101, 102, 103, 104, 105, 106, 107, 108, 109, 110, 111, 112, 113, 114, 115, 116, 117, 118, 119, 120, 121, 122] (by decide +kernel) (by decide +kernel)
set_option maxRecDepth 20000 in
theorem gX3_lots_X3_draw : GoodIn wsX3_lots (wsV RX3 281 RX3 yX3_draw wsX3_draw) := goodIn_app (goodIn_of _ (by decide +kernel)) ggX3_lots_X3_draw
set_option maxRecDepth 20000 in
theorem ggX3_lots_X3_asksOne : GoodIn wsX3_lots wsX3_asksOne := goodIn_r _ [55, 35, 34, 29, 30, 31, 32, 33, 56, 57, 58, 7, 59, 26, 27, 2, 60, 61, 62, 63, 28, 24, 23, 25, 64, 65, 66, 67, 68, 69, 70, 90, 91, 92, 93, 94, 95, 96, 97, 98, 99, 100, 101, 102, 103, 104, 105, 106, 107, 108, 109, 110, 111, 112, 113, 114, 115, 116, 117, 118, 119, 120, 121, 122] (by decide +kernel) (by decide +kernel)
set_option maxRecDepth 20000 in
theorem gX3_lots_X3_asksOne : GoodIn wsX3_lots (wsV RX3 130 RX3 yX3_asksOne wsX3_asksOne) := goodIn_app (goodIn_of _ (by decide +kernel)) ggX3_lots_X3_asksOne
set_option maxRecDepth 20000 in
theorem ggX3_lots_X3_findFit : GoodIn wsX3_lots wsX3_findFit := goodIn_r _ [74, 4, 75, 76, 77, 7, 78, 34, 79, 80, 81, 82, 2, 29, 32, 31, 56, 57, 58, 59, 26, 27, 60, 61, 62, 63, 28, 24, 23, 25, 64, 65, 66, 67, 68, 69, 70, 83, 84, 85, 86, 30, 90, 91, 92, 93, 94, 95, 96, 97, 98, 99, 100, 101, 102, 103, 104, 105, 106, 107, 108, 109, 110, 111, 112, 113, 114, 115, 116, 117, 118, 119, 120, 121, 122] (by decide +kernel) (by decide +kernel)
set_option maxRecDepth 20000 in
theorem gX3_lots_X3_findFit : GoodIn wsX3_lots (wsV RX3 206 RX3 yX3_findFit wsX3_findFit) := goodIn_app (goodIn_of _ (by decide +kernel)) ggX3_lots_X3_findFit
set_option maxRecDepth 20000 in
theorem ggX3_lots_X3_manyIn : GoodIn wsX3_lots wsX3_manyIn := goodIn_r _ [89] (by decide +kernel) (by decide +kernel)
set_option maxRecDepth 20000 in
theorem gX3_lots_X3_manyIn : GoodIn wsX3_lots (va_wsS RX3 199 yX3_manyIn wsX3_manyIn) := goodIn_app (goodIn_of _ (by decide +kernel)) ggX3_lots_X3_manyIn
theorem dX3_lots_0 : decode cX3_lots 0 = .ok (.iload_n 1, 1) := by decide +kernel
theorem dX3_lots_1 : decode cX3_lots 1 = .ok (.iconst 1, 1) := by decide +kernel
theorem dX3_lots_2 : decode cX3_lots 2 = .ok (.bipush 20, 2) := by decide +kernel
theorem dX3_lots_4 : decode cX3_lots 4 = .ok (.invokestatic 79, 3) := by decide +kernel
theorem dX3_lots_7 : decode cX3_lots 7 = .ok (.istore 4, 2) := by decide +kernel
theorem dX3_lots_9 : decode cX3_lots 9 = .ok (.iload 4, 2) := by decide +kernel
theorem dX3_lots_11 : decode cX3_lots 11 = .ok (.ifCond .ne 39, 3) := by decide +kernel
theorem dX3_lots_14 : decode cX3_lots 14 = .ok (.iload_n 3, 1) := by decide +kernel
theorem dX3_lots_15 : decode cX3_lots 15 = .ok (.iconst 0, 1) := by decide +kernel
theorem dX3_lots_16 : decode cX3_lots 16 = .ok (.iconst 1, 1) := by decide +kernel
theorem dX3_lots_17 : decode cX3_lots 17 = .ok (.invokestatic 97, 3) := by decide +kernel
theorem dX3_lots_20 : decode cX3_lots 20 = .ok (.ifCond .ne 8, 3) := by decide +kernel
theorem dX3_lots_23 : decode cX3_lots 23 = .ok (.bipush (-2), 2) := by decide +kernel
theorem dX3_lots_25 : decode cX3_lots 25 = .ok (.goto 23, 3) := by decide +kernel
theorem dX3_lots_28 : decode cX3_lots 28 = .ok (.aload_n 0, 1) := by decide +kernel
theorem dX3_lots_29 : decode cX3_lots 29 = .ok (.getfield 76, 3) := by decide +kernel
theorem dX3_lots_32 : decode cX3_lots 32 = .ok (.ifCond .eq 10, 3) := by decide +kernel
theorem dX3_lots_35 : decode cX3_lots 35 = .ok (.aload_n 0, 1) := by decide +kernel
theorem dX3_lots_36 : decode cX3_lots 36 = .ok (.getfield 70, 3) := by decide +kernel
theorem dX3_lots_39 : decode cX3_lots 39 = .ok (.ifCond .ne 8, 3) := by decide +kernel
theorem dX3_lots_42 : decode cX3_lots 42 = .ok (.bipush (-3), 2) := by decide +kernel
theorem dX3_lots_44 : decode cX3_lots 44 = .ok (.goto 4, 3) := by decide +kernel
theorem dX3_lots_47 : decode cX3_lots 47 = .ok (.iconst 0, 1) := by decide +kernel
theorem dX3_lots_48 : decode cX3_lots 48 = .ok (.istore 4, 2) := by decide +kernel
theorem dX3_lots_50 : decode cX3_lots 50 = .ok (.iload 4, 2) := by decide +kernel
theorem dX3_lots_52 : decode cX3_lots 52 = .ok (.ifCond .eq 10, 3) := by decide +kernel
theorem dX3_lots_55 : decode cX3_lots 55 = .ok (.aload_n 0, 1) := by decide +kernel
theorem dX3_lots_56 : decode cX3_lots 56 = .ok (.iload 4, 2) := by decide +kernel
theorem dX3_lots_58 : decode cX3_lots 58 = .ok (.invokevirtual 86, 3) := by decide +kernel
theorem dX3_lots_61 : decode cX3_lots 61 = .ok (.ireturn, 1) := by decide +kernel
theorem dX3_lots_62 : decode cX3_lots 62 = .ok (.aload_n 0, 1) := by decide +kernel
theorem dX3_lots_63 : decode cX3_lots 63 = .ok (.iload_n 2, 1) := by decide +kernel
theorem dX3_lots_64 : decode cX3_lots 64 = .ok (.putfield 275, 3) := by decide +kernel
theorem dX3_lots_67 : decode cX3_lots 67 = .ok (.iconst 0, 1) := by decide +kernel
theorem dX3_lots_68 : decode cX3_lots 68 = .ok (.istore 5, 2) := by decide +kernel
theorem dX3_lots_70 : decode cX3_lots 70 = .ok (.iconst 0, 1) := by decide +kernel
theorem dX3_lots_71 : decode cX3_lots 71 = .ok (.istore 6, 2) := by decide +kernel
theorem dX3_lots_73 : decode cX3_lots 73 = .ok (.iconst 0, 1) := by decide +kernel
theorem dX3_lots_74 : decode cX3_lots 74 = .ok (.istore 7, 2) := by decide +kernel
theorem dX3_lots_76 : decode cX3_lots 76 = .ok (.iload 7, 2) := by decide +kernel
theorem dX3_lots_78 : decode cX3_lots 78 = .ok (.iload_n 1, 1) := by decide +kernel
theorem dX3_lots_79 : decode cX3_lots 79 = .ok (.if_icmp .ge 92, 3) := by decide +kernel
theorem dX3_lots_82 : decode cX3_lots 82 = .ok (.aload_n 0, 1) := by decide +kernel
theorem dX3_lots_83 : decode cX3_lots 83 = .ok (.iconst 2, 1) := by decide +kernel
theorem dX3_lots_84 : decode cX3_lots 84 = .ok (.iconst 1, 1) := by decide +kernel
theorem dX3_lots_85 : decode cX3_lots 85 = .ok (.invokevirtual 153, 3) := by decide +kernel
theorem dX3_lots_88 : decode cX3_lots 88 = .ok (.iconst 0, 1) := by decide +kernel
theorem dX3_lots_89 : decode cX3_lots 89 = .ok (.istore 8, 2) := by decide +kernel
theorem dX3_lots_91 : decode cX3_lots 91 = .ok (.iload 8, 2) := by decide +kernel
theorem dX3_lots_93 : decode cX3_lots 93 = .ok (.bipush 6, 2) := by decide +kernel
theorem dX3_lots_95 : decode cX3_lots 95 = .ok (.if_icmp .ge 47, 3) := by decide +kernel
theorem dX3_lots_98 : decode cX3_lots 98 = .ok (.aload_n 0, 1) := by decide +kernel
theorem dX3_lots_99 : decode cX3_lots 99 = .ok (.aload_n 0, 1) := by decide +kernel
theorem dX3_lots_100 : decode cX3_lots 100 = .ok (.getfield 76, 3) := by decide +kernel
theorem dX3_lots_103 : decode cX3_lots 103 = .ok (.invokevirtual 281, 3) := by decide +kernel
theorem dX3_lots_106 : decode cX3_lots 106 = .ok (.istore 9, 2) := by decide +kernel
theorem dX3_lots_108 : decode cX3_lots 108 = .ok (.iload 5, 2) := by decide +kernel
theorem dX3_lots_110 : decode cX3_lots 110 = .ok (.aload_n 0, 1) := by decide +kernel
theorem dX3_lots_111 : decode cX3_lots 111 = .ok (.iload 9, 2) := by decide +kernel
theorem dX3_lots_113 : decode cX3_lots 113 = .ok (.aload_n 0, 1) := by decide +kernel
theorem dX3_lots_114 : decode cX3_lots 114 = .ok (.aload_n 0, 1) := by decide +kernel
theorem dX3_lots_115 : decode cX3_lots 115 = .ok (.getfield 70, 3) := by decide +kernel
theorem dX3_lots_118 : decode cX3_lots 118 = .ok (.invokevirtual 281, 3) := by decide +kernel
theorem dX3_lots_121 : decode cX3_lots 121 = .ok (.invokevirtual 130, 3) := by decide +kernel
theorem dX3_lots_124 : decode cX3_lots 124 = .ok (.iconst 1, 1) := by decide +kernel
theorem dX3_lots_125 : decode cX3_lots 125 = .ok (.if_icmp .ne 7, 3) := by decide +kernel
theorem dX3_lots_128 : decode cX3_lots 128 = .ok (.iconst 1, 1) := by decide +kernel
theorem dX3_lots_129 : decode cX3_lots 129 = .ok (.goto 4, 3) := by decide +kernel
theorem dX3_lots_132 : decode cX3_lots 132 = .ok (.iconst 0, 1) := by decide +kernel
theorem dX3_lots_133 : decode cX3_lots 133 = .ok (.iadd, 1) := by decide +kernel
theorem dX3_lots_134 : decode cX3_lots 134 = .ok (.istore 5, 2) := by decide +kernel
theorem dX3_lots_136 : decode cX3_lots 136 = .ok (.iinc 8 1, 3) := by decide +kernel
theorem dX3_lots_139 : decode cX3_lots 139 = .ok (.goto (-48), 3) := by decide +kernel
theorem dX3_lots_142 : decode cX3_lots 142 = .ok (.aload_n 0, 1) := by decide +kernel
theorem dX3_lots_143 : decode cX3_lots 143 = .ok (.iconst 0, 1) := by decide +kernel
theorem dX3_lots_144 : decode cX3_lots 144 = .ok (.invokevirtual 206, 3) := by decide +kernel
theorem dX3_lots_147 : decode cX3_lots 147 = .ok (.iload 6, 2) := by decide +kernel
theorem dX3_lots_149 : decode cX3_lots 149 = .ok (.aload_n 0, 1) := by decide +kernel
theorem dX3_lots_150 : decode cX3_lots 150 = .ok (.getfield 58, 3) := by decide +kernel
theorem dX3_lots_153 : decode cX3_lots 153 = .ok (.invokestatic 199, 3) := by decide +kernel
theorem dX3_lots_156 : decode cX3_lots 156 = .ok (.iadd, 1) := by decide +kernel
theorem dX3_lots_157 : decode cX3_lots 157 = .ok (.istore 6, 2) := by decide +kernel
theorem dX3_lots_159 : decode cX3_lots 159 = .ok (.aload_n 0, 1) := by decide +kernel
theorem dX3_lots_160 : decode cX3_lots 160 = .ok (.iconst 2, 1) := by decide +kernel
theorem dX3_lots_161 : decode cX3_lots 161 = .ok (.iconst 0, 1) := by decide +kernel
theorem dX3_lots_162 : decode cX3_lots 162 = .ok (.invokevirtual 153, 3) := by decide +kernel
theorem dX3_lots_165 : decode cX3_lots 165 = .ok (.iinc 7 1, 3) := by decide +kernel
theorem dX3_lots_168 : decode cX3_lots 168 = .ok (.goto (-92), 3) := by decide +kernel
theorem dX3_lots_171 : decode cX3_lots 171 = .ok (.iload_n 3, 1) := by decide +kernel
theorem dX3_lots_172 : decode cX3_lots 172 = .ok (.ifCond .ne 8, 3) := by decide +kernel
theorem dX3_lots_175 : decode cX3_lots 175 = .ok (.iload 5, 2) := by decide +kernel
theorem dX3_lots_177 : decode cX3_lots 177 = .ok (.goto 5, 3) := by decide +kernel
theorem dX3_lots_180 : decode cX3_lots 180 = .ok (.iload 6, 2) := by decide +kernel
theorem dX3_lots_182 : decode cX3_lots 182 = .ok (.ireturn, 1) := by decide +kernel
set_option maxRecDepth 20000 in
theorem ggX3_count_X3_isIn : GoodIn wsX3_count wsX3_isIn := goodIn_r _ [12] (by decide +kernel) (by decide +kernel)
set_option maxRecDepth 20000 in
theorem gX3_count_X3_isIn : GoodIn wsX3_count (va_wsS RX3 97 yX3_isIn wsX3_isIn) := goodIn_app (goodIn_of _ (by decide +kernel)) ggX3_count_X3_isIn
set_option maxRecDepth 20000 in
theorem ggX3_count_X3_isSo : GoodIn wsX3_count wsX3_isSo := goodIn_r _ [16, 17, 18, 19, 20, 21, 11, 22, 23, 24, 25, 26, 27, 28, 29, 30, 31, 32, 33, 34, 35, 36, 37, 38, 39, 40, 41, 42, 43, 44, 45, 46, 47, 48, 49, 50, 51, 52, 53, 54, 55] (by decide +kernel) (by decide +kernel)
set_option maxRecDepth 20000 in
theorem gX3_count_X3_isSo : GoodIn wsX3_count (wsV RX3 180 RX3 yX3_isSo wsX3_isSo) := goodIn_app (goodIn_of _ (by decide +kernel)) ggX3_count_X3_isSo
theorem dX3_count_0 : decode cX3_count 0 = .ok (.iload_n 1, 1) := by decide +kernel
theorem dX3_count_1 : decode cX3_count 1 = .ok (.bipush 11, 2) := by decide +kernel
theorem dX3_count_3 : decode cX3_count 3 = .ok (.bipush 16, 2) := by decide +kernel
theorem dX3_count_5 : decode cX3_count 5 = .ok (.invokestatic 97, 3) := by decide +kernel
theorem dX3_count_8 : decode cX3_count 8 = .ok (.ifCond .eq 13, 3) := by decide +kernel
theorem dX3_count_11 : decode cX3_count 11 = .ok (.aload_n 0, 1) := by decide +kernel
theorem dX3_count_12 : decode cX3_count 12 = .ok (.getfield 7, 3) := by decide +kernel
theorem dX3_count_15 : decode cX3_count 15 = .ok (.iload_n 1, 1) := by decide +kernel
theorem dX3_count_16 : decode cX3_count 16 = .ok (.bipush 10, 2) := by decide +kernel
theorem dX3_count_18 : decode cX3_count 18 = .ok (.isub, 1) := by decide +kernel
theorem dX3_count_19 : decode cX3_count 19 = .ok (.iaload, 1) := by decide +kernel
theorem dX3_count_20 : decode cX3_count 20 = .ok (.ireturn, 1) := by decide +kernel
theorem dX3_count_21 : decode cX3_count 21 = .ok (.iconst 0, 1) := by decide +kernel
theorem dX3_count_22 : decode cX3_count 22 = .ok (.istore_n 2, 1) := by decide +kernel
theorem dX3_count_23 : decode cX3_count 23 = .ok (.iload_n 1, 1) := by decide +kernel
theorem dX3_count_24 : decode cX3_count 24 = .ok (.tableswitch 123 0 7 #[48, 53, 58, 63, 68, 73, 113, 118], 48) := by decide +kernel
theorem dX3_count_72 : decode cX3_count 72 = .ok (.aload_n 0, 1) := by decide +kernel
theorem dX3_count_73 : decode cX3_count 73 = .ok (.getfield 70, 3) := by decide +kernel
theorem dX3_count_76 : decode cX3_count 76 = .ok (.ireturn, 1) := by decide +kernel
theorem dX3_count_77 : decode cX3_count 77 = .ok (.aload_n 0, 1) := by decide +kernel
theorem dX3_count_78 : decode cX3_count 78 = .ok (.getfield 76, 3) := by decide +kernel
theorem dX3_count_81 : decode cX3_count 81 = .ok (.ireturn, 1) := by decide +kernel
theorem dX3_count_82 : decode cX3_count 82 = .ok (.aload_n 0, 1) := by decide +kernel
theorem dX3_count_83 : decode cX3_count 83 = .ok (.getfield 134, 3) := by decide +kernel
theorem dX3_count_86 : decode cX3_count 86 = .ok (.ireturn, 1) := by decide +kernel
theorem dX3_count_87 : decode cX3_count 87 = .ok (.aload_n 0, 1) := by decide +kernel
theorem dX3_count_88 : decode cX3_count 88 = .ok (.getfield 146, 3) := by decide +kernel
theorem dX3_count_91 : decode cX3_count 91 = .ok (.ireturn, 1) := by decide +kernel
theorem dX3_count_92 : decode cX3_count 92 = .ok (.aload_n 0, 1) := by decide +kernel
theorem dX3_count_93 : decode cX3_count 93 = .ok (.getfield 127, 3) := by decide +kernel
theorem dX3_count_96 : decode cX3_count 96 = .ok (.ireturn, 1) := by decide +kernel
theorem dX3_count_97 : decode cX3_count 97 = .ok (.iconst 0, 1) := by decide +kernel
theorem dX3_count_98 : decode cX3_count 98 = .ok (.istore_n 3, 1) := by decide +kernel
theorem dX3_count_99 : decode cX3_count 99 = .ok (.iload_n 3, 1) := by decide +kernel
theorem dX3_count_100 : decode cX3_count 100 = .ok (.aload_n 0, 1) := by decide +kernel
theorem dX3_count_101 : decode cX3_count 101 = .ok (.getfield 70, 3) := by decide +kernel
theorem dX3_count_104 : decode cX3_count 104 = .ok (.if_icmp .ge 31, 3) := by decide +kernel
theorem dX3_count_107 : decode cX3_count 107 = .ok (.iload_n 2, 1) := by decide +kernel
theorem dX3_count_108 : decode cX3_count 108 = .ok (.aload_n 0, 1) := by decide +kernel
theorem dX3_count_109 : decode cX3_count 109 = .ok (.iload_n 3, 1) := by decide +kernel
theorem dX3_count_110 : decode cX3_count 110 = .ok (.aload_n 0, 1) := by decide +kernel
theorem dX3_count_111 : decode cX3_count 111 = .ok (.getfield 134, 3) := by decide +kernel
theorem dX3_count_114 : decode cX3_count 114 = .ok (.invokevirtual 180, 3) := by decide +kernel
theorem dX3_count_117 : decode cX3_count 117 = .ok (.ifCond .eq 9, 3) := by decide +kernel
theorem dX3_count_120 : decode cX3_count 120 = .ok (.iconst 1, 1) := by decide +kernel
theorem dX3_count_121 : decode cX3_count 121 = .ok (.iload_n 3, 1) := by decide +kernel
theorem dX3_count_122 : decode cX3_count 122 = .ok (.ishl, 1) := by decide +kernel
theorem dX3_count_123 : decode cX3_count 123 = .ok (.goto 4, 3) := by decide +kernel
theorem dX3_count_126 : decode cX3_count 126 = .ok (.iconst 0, 1) := by decide +kernel
theorem dX3_count_127 : decode cX3_count 127 = .ok (.ior, 1) := by decide +kernel
theorem dX3_count_128 : decode cX3_count 128 = .ok (.istore_n 2, 1) := by decide +kernel
theorem dX3_count_129 : decode cX3_count 129 = .ok (.iinc 3 1, 3) := by decide +kernel
theorem dX3_count_132 : decode cX3_count 132 = .ok (.goto (-33), 3) := by decide +kernel
theorem dX3_count_135 : decode cX3_count 135 = .ok (.iload_n 2, 1) := by decide +kernel
theorem dX3_count_136 : decode cX3_count 136 = .ok (.ireturn, 1) := by decide +kernel
theorem dX3_count_137 : decode cX3_count 137 = .ok (.aload_n 0, 1) := by decide +kernel
theorem dX3_count_138 : decode cX3_count 138 = .ok (.getfield 266, 3) := by decide +kernel
theorem dX3_count_141 : decode cX3_count 141 = .ok (.ireturn, 1) := by decide +kernel
theorem dX3_count_142 : decode cX3_count 142 = .ok (.aload_n 0, 1) := by decide +kernel
theorem dX3_count_143 : decode cX3_count 143 = .ok (.getfield 83, 3) := by decide +kernel
theorem dX3_count_146 : decode cX3_count 146 = .ok (.ireturn, 1) := by decide +kernel
theorem dX3_count_147 : decode cX3_count 147 = .ok (.bipush (-9), 2) := by decide +kernel
theorem dX3_count_149 : decode cX3_count 149 = .ok (.ireturn, 1) := by decide +kernel
